section LINE
def fMa (n : Int) (ah : Value) (sa : Nat) (c : Int → Int) : List Value := [.int (iI n), ah, .ref sa, .int (iI (c 0)), .int (iI (c 1)), .int (iI (c 2)), .int (iI (c 3)), .int (iI (c 4)), .int (iI (c 5)), .int (iI (c 6)), .int (iI (c 7)), .int (iI (c 8)), .int (iI (c 9)), .int (iI (c 10))]
/-- a machine's numbers: 0 in the gap, 1 working, 2 holding, 3 ticks on the unit, 4 finished, 5 rejected, 6 sampled, 7 unconfirmed, 8 the oldest reject, 9 state, 10 ran -/
def mOk (c : Int → Int) : Prop := (0 ≤ c 0 ∧ c 0 ≤ 20) ∧ (0 ≤ c 1 ∧ c 1 ≤ 1) ∧ (0 ≤ c 2 ∧ c 2 ≤ 1) ∧ (0 ≤ c 3 ∧ c 3 ≤ 4) ∧ (0 ≤ c 7 ∧ c 7 ≤ 20000) ∧ (0 ≤ c 8 ∧ c 8 ≤ 10000) ∧ (-4 ≤ c 9 ∧ c 9 ≤ 4) ∧ (c 1 = 1 ∨ c 3 = 0) ∧ (c 1 = 0 ∨ c 2 = 0)
def sOk (s : Int → Int) : Prop := (1 ≤ s 0 ∧ s 0 ≤ 5) ∧ (0 ≤ s 1 ∧ s 1 ≤ 99) ∧ (0 ≤ s 2 ∧ s 2 ≤ 99) ∧ (1 ≤ s 3 ∧ s 3 ≤ 20)
def flB (fm fa fb : Int → Int) (k t : Int) : Nat → Bool
  | 0 => false
  | n + 1 => flB fm fa fb k t n || (decide (fm (n : Int) = k) && (decide (fa (n : Int) ≤ t) && decide (t ≤ fb (n : Int))))
def fl (fm fa fb : Int → Int) (k t n : Int) : Bool := flB fm fa fb k t n.toNat
theorem fl_s (fm fa fb : Int → Int) (k t : Int) {i : Int} (h : 0 ≤ i) : fl fm fa fb k t (i + 1) = (fl fm fa fb k t i || (decide (fm i = k) && (decide (fa i ≤ t) && decide (t ≤ fb i)))) := by
  unfold fl
  rw [show (i + 1).toNat = i.toNat + 1 by omega]
  show (flB fm fa fb k t i.toNat || (decide (fm (i.toNat : Int) = k) && (decide (fa (i.toNat : Int) ≤ t) && decide (t ≤ fb (i.toNat : Int))))) = _
  rw [show ((i.toNat : Nat) : Int) = i by omega]
theorem flB_mono (fm fa fb : Int → Int) (k t : Int) (a : Nat) (h : flB fm fa fb k t a = true) : ∀ d, flB fm fa fb k t (a + d) = true
  | 0 => h
  | d + 1 => by
    show (flB fm fa fb k t (a + d) || _) = true
    rw [flB_mono fm fa fb k t a h d]; rfl
theorem fl_mono {fm fa fb : Int → Int} {k t i n : Int} (h : fl fm fa fb k t i = true) (h0 : 0 ≤ i) (h1 : i ≤ n) : fl fm fa fb k t n = true := by
  unfold fl at *
  have := flB_mono fm fa fb k t i.toNat h (n.toNat - i.toNat)
  rwa [show i.toNat + (n.toNat - i.toNat) = n.toNat by omega] at this

set_option maxHeartbeats 4000000 in
set_option maxRecDepth 100000 in
theorem c_X3_unitsInside (E : Ev) (h : Nat) (sa : Nat) (n : Int) (ah : Value) (c : Int → Int) (hc : mOk c) : MI yX3_unitsInside wsX3_unitsInside ({ frames := 0, cells := 0, slots := 0, locals := 0 } : Room) E [] 0 0 [.ref h] [(h, oo 3 (fMa n ah sa c))] (fun r u => (r = iI (bI (c 1 ≠ 0 ∨ c 2 ≠ 0))) ∧ u = [(h, oo 3 (fMa n ah sa c))]) := by
  refine MI.of (cc := cX3_unitsInside) (maxL := 1) (own := RX3) (by decide) rfl rfl rfl (Nat.le_of_ble_eq_true rfl) [(0, .ref h)] rfl ?_
  intro X hin2 hRet
  refine g_aload_n 0 dX3_unitsInside_0 rfl rfl ?_
  refine g_get (v := .int (iI (c 1))) (C := RX3) (T := TX3) (N := 14) 0 4 (fun _ h => List.mem_cons_of_mem _ (List.mem_append_right _ h)) (List.mem_of_getElem? (i := 1) rfl) rfl rfl (by decide) rfl rfl dX3_unitsInside_1 ?_
  refine g_if_ne (tgt := 14) (by (try unfold mOk at *); (try unfold sOk at *); unfold R32; omega) dX3_unitsInside_4 rfl (fun c_1 => ?_) (fun c_1 => ?_)
  · refine g_aload_n 0 dX3_unitsInside_7 rfl rfl ?_
    refine g_get (v := .int (iI (c 2))) (C := RX3) (T := TX3) (N := 14) 0 5 (fun _ h => List.mem_cons_of_mem _ (List.mem_append_right _ h)) (List.mem_of_getElem? (i := 2) rfl) rfl rfl (by decide) rfl rfl dX3_unitsInside_8 ?_
    refine g_if_eq (tgt := 18) (by (try unfold mOk at *); (try unfold sOk at *); unfold R32; omega) dX3_unitsInside_11 rfl (fun c_2 => ?_) (fun c_2 => ?_)
    · refine g_iconst dX3_unitsInside_18 ?_
      exact g_iret hRet dX3_unitsInside_19 rfl ⟨(bI_f (by omega)), rfl⟩
    · refine g_iconst dX3_unitsInside_14 ?_
      refine g_goto (tgt := 19) dX3_unitsInside_15 rfl ?_
      exact g_iret hRet dX3_unitsInside_19 rfl ⟨(bI_t (by omega)), rfl⟩
  · refine g_iconst dX3_unitsInside_14 ?_
    refine g_goto (tgt := 19) dX3_unitsInside_15 rfl ?_
    exact g_iret hRet dX3_unitsInside_19 rfl ⟨(bI_t (by omega)), rfl⟩

set_option maxHeartbeats 4000000 in
set_option maxRecDepth 100000 in
theorem c_X3_waitsForWord (E : Ev) (h : Nat) (sa : Nat) (n : Int) (ah : Value) (c : Int → Int) (tick : Int) (hc : mOk c) (h_tick : -2147483648 ≤ tick ∧ tick ≤ 2147483647) (ht : 0 ≤ tick ∧ tick ≤ 10000) : MI yX3_waitsForWord wsX3_waitsForWord ({ frames := 0, cells := 0, slots := 0, locals := 0 } : Room) E [] 0 0 [.ref h, .int (iI tick)] [(h, oo 3 (fMa n ah sa c))] (fun r u => r = iI (bI (0 < c 7 ∧ 3 ≤ tick - c 8)) ∧ u = [(h, oo 3 (fMa n ah sa c))]) := by
  refine MI.of (cc := cX3_waitsForWord) (maxL := 2) (own := RX3) (by decide) rfl rfl rfl (Nat.le_of_ble_eq_true rfl) [(0, .ref h), (1, .int (iI tick))] rfl ?_
  intro X hin2 hRet
  refine g_aload_n 0 dX3_waitsForWord_0 rfl rfl ?_
  refine g_get (v := .int (iI (c 7))) (C := RX3) (T := TX3) (N := 14) 0 10 (fun _ h => List.mem_cons_of_mem _ (List.mem_append_right _ h)) (List.mem_of_getElem? (i := 1) rfl) rfl rfl (by decide) rfl rfl dX3_waitsForWord_1 ?_
  refine g_if_le (tgt := 21) (by (try unfold mOk at *); (try unfold sOk at *); unfold R32; omega) dX3_waitsForWord_4 rfl (fun c_1 => ?_) (fun c_1 => ?_)
  · refine g_iconst dX3_waitsForWord_21 ?_
    exact g_iret hRet dX3_waitsForWord_22 rfl ⟨(bI_f (by omega)), rfl⟩
  · refine g_iload_n 1 dX3_waitsForWord_7 rfl rfl ?_
    refine g_aload_n 0 dX3_waitsForWord_8 rfl rfl ?_
    refine g_get (v := .int (iI (c 8))) (C := RX3) (T := TX3) (N := 14) 0 11 (fun _ h => List.mem_cons_of_mem _ (List.mem_append_right _ h)) (List.mem_of_getElem? (i := 2) rfl) rfl rfl (by decide) rfl rfl dX3_waitsForWord_9 ?_
    refine g_isub dX3_waitsForWord_12 ?_
    refine g_iconst dX3_waitsForWord_13 ?_
    refine g_icmp_lt (tgt := 21) (by (try unfold mOk at *); (try unfold sOk at *); unfold R32; omega) (by (try unfold mOk at *); (try unfold sOk at *); unfold R32; omega) dX3_waitsForWord_14 rfl (fun c_2 => ?_) (fun c_2 => ?_)
    · refine g_iconst dX3_waitsForWord_21 ?_
      exact g_iret hRet dX3_waitsForWord_22 rfl ⟨(bI_f (by omega)), rfl⟩
    · refine g_iconst dX3_waitsForWord_17 ?_
      refine g_goto (tgt := 22) dX3_waitsForWord_18 rfl ?_
      exact g_iret hRet dX3_waitsForWord_22 rfl ⟨(bI_t (by omega)), rfl⟩

set_option maxHeartbeats 4000000 in
set_option maxRecDepth 100000 in
theorem c_X3_unitIsFinished (E : Ev) (h : Nat) (sa : Nat) (n : Int) (ah : Value) (c : Int → Int) (s : Int → Int) (hc : mOk c) (hs : sOk s) : MI yX3_unitIsFinished wsX3_unitIsFinished ({ frames := 0, cells := 0, slots := 0, locals := 0 } : Room) E [] 0 0 [.ref h] [(h, oo 3 (fMa n ah sa c)), (sa, aI E 4 s)] (fun r u => r = iI (bI (s 0 ≤ c 3)) ∧ u = [(h, oo 3 (fMa n ah sa c)), (sa, aI E 4 s)]) := by
  refine MI.of (cc := cX3_unitIsFinished) (maxL := 1) (own := RX3) (by decide) rfl rfl rfl (Nat.le_of_ble_eq_true rfl) [(0, .ref h)] rfl ?_
  intro X hin2 hRet
  refine g_aload_n 0 dX3_unitIsFinished_0 rfl rfl ?_
  refine g_get (v := .int (iI (c 3))) (C := RX3) (T := TX3) (N := 14) 0 6 (fun _ h => List.mem_cons_of_mem _ (List.mem_append_right _ h)) (List.mem_of_getElem? (i := 1) rfl) rfl rfl (by decide) rfl rfl dX3_unitIsFinished_1 ?_
  refine g_aload_n 0 dX3_unitIsFinished_4 rfl rfl ?_
  refine g_get (v := .ref sa) (C := RX3) (T := TX3) (N := 14) 0 2 (fun _ h => List.mem_cons_of_mem _ (List.mem_append_right _ h)) (List.mem_of_getElem? (i := 2) rfl) rfl rfl (by decide) rfl rfl dX3_unitIsFinished_5 ?_
  refine g_iconst dX3_unitIsFinished_8 ?_
  refine g_iald 1 dX3_unitIsFinished_9 rfl (by decide) (by omega) (by omega) ?_
  refine g_icmp_lt (tgt := 17) (by (try unfold mOk at *); (try unfold sOk at *); unfold R32; omega) (by (try unfold mOk at *); (try unfold sOk at *); unfold R32; omega) dX3_unitIsFinished_10 rfl (fun c_1 => ?_) (fun c_1 => ?_)
  · refine g_iconst dX3_unitIsFinished_17 ?_
    exact g_iret hRet dX3_unitIsFinished_18 rfl ⟨(bI_f (by omega)), rfl⟩
  · refine g_iconst dX3_unitIsFinished_13 ?_
    refine g_goto (tgt := 18) dX3_unitIsFinished_14 rfl ?_
    exact g_iret hRet dX3_unitIsFinished_18 rfl ⟨(bI_t (by omega)), rfl⟩

set_option maxHeartbeats 4000000 in
set_option maxRecDepth 100000 in
theorem c_X3_isEach (E : Ev) (h : Nat) (sa : Nat) (n : Int) (ah : Value) (c : Int → Int) (each : Int) (hc : mOk c) (h_each : -2147483648 ≤ each ∧ each ≤ 2147483647) (he : 0 ≤ each ∧ each ≤ 99) : MI yX3_isEach wsX3_isEach ({ frames := 0, cells := 0, slots := 0, locals := 0 } : Room) E [] 0 0 [.ref h, .int (iI each)] [(h, oo 3 (fMa n ah sa c))] (fun r u => r = iI (bI (each ≠ 0 ∧ rmI (c 4) each = 0)) ∧ u = [(h, oo 3 (fMa n ah sa c))]) := by
  refine MI.of (cc := cX3_isEach) (maxL := 2) (own := RX3) (by decide) rfl rfl rfl (Nat.le_of_ble_eq_true rfl) [(0, .ref h), (1, .int (iI each))] rfl ?_
  intro X hin2 hRet
  refine g_iload_n 1 dX3_isEach_0 rfl rfl ?_
  refine g_if_eq (tgt := 17) (by (try unfold mOk at *); (try unfold sOk at *); unfold R32; omega) dX3_isEach_1 rfl (fun c_1 => ?_) (fun c_1 => ?_)
  · refine g_iconst dX3_isEach_17 ?_
    exact g_iret hRet dX3_isEach_18 rfl ⟨(by first | exact bI_t ⟨by assumption, by assumption⟩ | exact bI_f (fun q => by first | exact absurd q.2 (by assumption) | exact absurd (by assumption) q.1)), rfl⟩
  · refine g_aload_n 0 dX3_isEach_4 rfl rfl ?_
    refine g_get (v := .int (iI (c 4))) (C := RX3) (T := TX3) (N := 14) 0 7 (fun _ h => List.mem_cons_of_mem _ (List.mem_append_right _ h)) (List.mem_of_getElem? (i := 1) rfl) rfl rfl (by decide) rfl rfl dX3_isEach_5 ?_
    refine g_iload_n 1 dX3_isEach_8 rfl rfl ?_
    refine g_irem dX3_isEach_9 (by unfold R32; omega) ?_
    refine g_if_ne_r (tgt := 17) dX3_isEach_10 rfl (fun c_2 => ?_) (fun c_2 => ?_)
    · refine g_iconst dX3_isEach_13 ?_
      refine g_goto (tgt := 18) dX3_isEach_14 rfl ?_
      exact g_iret hRet dX3_isEach_18 rfl ⟨(by first | exact bI_t ⟨by assumption, by assumption⟩ | exact bI_f (fun q => by first | exact absurd q.2 (by assumption) | exact absurd (by assumption) q.1)), rfl⟩
    · refine g_iconst dX3_isEach_17 ?_
      exact g_iret hRet dX3_isEach_18 rfl ⟨(by first | exact bI_t ⟨by assumption, by assumption⟩ | exact bI_f (fun q => by first | exact absurd q.2 (by assumption) | exact absurd (by assumption) q.1)), rfl⟩

set_option maxHeartbeats 4000000 in
set_option maxRecDepth 100000 in
theorem c_X3_reject (E : Ev) (h : Nat) (sa : Nat) (n : Int) (ah : Value) (c : Int → Int) (tick : Int) (hc : mOk c) (h_tick : -2147483648 ≤ tick ∧ tick ≤ 2147483647) : MV yX3_reject wsX3_reject ({ frames := 0, cells := 0, slots := 0, locals := 0 } : Room) E [] 0 0 [.ref h, .int (iI tick)] [(h, oo 3 (fMa n ah sa c))] (fun u => u = [(h, oo 3 (fMa n ah sa (up (up (up c 5 (c 5 + 1)) 8 (if c 7 = 0 then tick else c 8)) 7 (c 7 + 1))))]) := by
  refine MV.of (cc := cX3_reject) (maxL := 2) (own := RX3) (by decide) rfl rfl rfl (Nat.le_of_ble_eq_true rfl) [(0, .ref h), (1, .int (iI tick))] rfl ?_
  intro X hin2 hRet
  refine g_aload_n 0 dX3_reject_0 rfl rfl ?_
  refine g_dup dX3_reject_1 rfl ?_
  refine g_get (v := .int (iI (c 5))) (C := RX3) (T := TX3) (N := 14) 0 8 (fun _ h => List.mem_cons_of_mem _ (List.mem_append_right _ h)) (List.mem_of_getElem? (i := 1) rfl) rfl rfl (by decide) rfl rfl dX3_reject_2 ?_
  refine g_iconst dX3_reject_5 ?_
  refine g_iadd dX3_reject_6 ?_
  refine g_put (C := RX3) (T := TX3) (N := 14) (ws1 := [(h, oo 3 (fMa n ah sa (up c 5 ((c 5) + 1))))]) 0 8 (fun _ h => List.mem_cons_of_mem _ (List.mem_append_right _ h)) tyX3 tyX3_ok nmX3 (List.mem_of_getElem? (i := 1) rfl) rfl rfl (by decide) rfl (tyX3_ok 8 (by decide)) rfl rfl (by first | decide | exact Nat.le_of_ble_eq_true rfl) dX3_reject_7 rfl rfl ?_
  refine g_aload_n 0 dX3_reject_10 rfl rfl ?_
  refine g_get (v := .int (iI (c 7))) (C := RX3) (T := TX3) (N := 14) 0 10 (fun _ h => List.mem_cons_of_mem _ (List.mem_append_right _ h)) (List.mem_of_getElem? (i := 2) rfl) rfl rfl (by decide) rfl rfl dX3_reject_11 ?_
  refine g_if_ne (tgt := 22) (by (try unfold mOk at *); (try unfold sOk at *); unfold R32; omega) dX3_reject_14 rfl (fun c_1 => ?_) (fun c_1 => ?_)
  · refine g_aload_n 0 dX3_reject_17 rfl rfl ?_
    refine g_iload_n 1 dX3_reject_18 rfl rfl ?_
    refine g_put (C := RX3) (T := TX3) (N := 14) (ws1 := [(h, oo 3 (fMa n ah sa (up (up c 5 ((c 5) + 1)) 8 tick)))]) 0 11 (fun _ h => List.mem_cons_of_mem _ (List.mem_append_right _ h)) tyX3 tyX3_ok nmX3 (List.mem_of_getElem? (i := 3) rfl) rfl rfl (by decide) rfl (tyX3_ok 11 (by decide)) rfl rfl (by first | decide | exact Nat.le_of_ble_eq_true rfl) dX3_reject_19 rfl rfl ?_
    refine g_aload_n 0 dX3_reject_22 rfl rfl ?_
    refine g_dup dX3_reject_23 rfl ?_
    refine g_get (v := .int (iI (c 7))) (C := RX3) (T := TX3) (N := 14) 0 10 (fun _ h => List.mem_cons_of_mem _ (List.mem_append_right _ h)) (List.mem_of_getElem? (i := 2) rfl) rfl rfl (by decide) rfl rfl dX3_reject_24 ?_
    refine g_iconst dX3_reject_27 ?_
    refine g_iadd dX3_reject_28 ?_
    refine g_put (C := RX3) (T := TX3) (N := 14) (ws1 := [(h, oo 3 (fMa n ah sa (up (up (up c 5 ((c 5) + 1)) 8 tick) 7 ((c 7) + 1))))]) 0 10 (fun _ h => List.mem_cons_of_mem _ (List.mem_append_right _ h)) tyX3 tyX3_ok nmX3 (List.mem_of_getElem? (i := 2) rfl) rfl rfl (by decide) rfl (tyX3_ok 10 (by decide)) rfl rfl (by first | decide | exact Nat.le_of_ble_eq_true rfl) dX3_reject_29 rfl rfl ?_
    exact g_vret hRet dX3_reject_32 (by first | (rw [if_pos (by assumption)]; done) | (rw [if_neg (by assumption)]; rfl))
  · refine g_aload_n 0 dX3_reject_22 rfl rfl ?_
    refine g_dup dX3_reject_23 rfl ?_
    refine g_get (v := .int (iI (c 7))) (C := RX3) (T := TX3) (N := 14) 0 10 (fun _ h => List.mem_cons_of_mem _ (List.mem_append_right _ h)) (List.mem_of_getElem? (i := 2) rfl) rfl rfl (by decide) rfl rfl dX3_reject_24 ?_
    refine g_iconst dX3_reject_27 ?_
    refine g_iadd dX3_reject_28 ?_
    refine g_put (C := RX3) (T := TX3) (N := 14) (ws1 := [(h, oo 3 (fMa n ah sa (up (up c 5 ((c 5) + 1)) 7 ((c 7) + 1))))]) 0 10 (fun _ h => List.mem_cons_of_mem _ (List.mem_append_right _ h)) tyX3 tyX3_ok nmX3 (List.mem_of_getElem? (i := 2) rfl) rfl rfl (by decide) rfl (tyX3_ok 10 (by decide)) rfl rfl (by first | decide | exact Nat.le_of_ble_eq_true rfl) dX3_reject_29 rfl rfl ?_
    exact g_vret hRet dX3_reject_32 (by first | (rw [if_pos (by assumption)]; done) | (rw [if_neg (by assumption)]; rfl))

set_option maxHeartbeats 4000000 in
set_option maxRecDepth 100000 in
theorem c_giveOn_t (E : Ev) (h : Nat) (sa : Nat) (n : Int) (ah : Value) (c : Int → Int) (s : Int → Int) (hc : mOk c) (hs : sOk s) (hg : c 0 < s 3) : MI yX3_giveOn wsX3_giveOn ({ frames := 0, cells := 0, slots := 0, locals := 0 } : Room) E [] 0 0 [.ref h] [(h, oo 3 (fMa n ah sa c)), (sa, aI E 4 s)] (fun r u => r = iI 1 ∧ u = [(h, oo 3 (fMa n ah sa (up (up c 0 (c 0 + 1)) 2 0))), (sa, aI E 4 s)]) := by
  refine MI.of (cc := cX3_giveOn) (maxL := 1) (own := RX3) (by decide) rfl rfl rfl (Nat.le_of_ble_eq_true rfl) [(0, .ref h)] rfl ?_
  intro X hin2 hRet
  refine g_aload_n 0 dX3_giveOn_0 rfl rfl ?_
  refine g_get (v := .int (iI (c 0))) (C := RX3) (T := TX3) (N := 14) 0 3 (fun _ h => List.mem_cons_of_mem _ (List.mem_append_right _ h)) (List.mem_of_getElem? (i := 1) rfl) rfl rfl (by decide) rfl rfl dX3_giveOn_1 ?_
  refine g_aload_n 0 dX3_giveOn_4 rfl rfl ?_
  refine g_get (v := .ref sa) (C := RX3) (T := TX3) (N := 14) 0 2 (fun _ h => List.mem_cons_of_mem _ (List.mem_append_right _ h)) (List.mem_of_getElem? (i := 2) rfl) rfl rfl (by decide) rfl rfl dX3_giveOn_5 ?_
  refine g_iconst dX3_giveOn_8 ?_
  refine g_iald 1 dX3_giveOn_9 rfl (by decide) (by omega) (by omega) ?_
  refine g_icmp_lt (tgt := 15) (by (try unfold mOk at *); (try unfold sOk at *); unfold R32; omega) (by (try unfold mOk at *); (try unfold sOk at *); unfold R32; omega) dX3_giveOn_10 rfl (fun c_1 => ?_) (fun c_1 => ?_)
  · refine g_aload_n 0 dX3_giveOn_15 rfl rfl ?_
    refine g_dup dX3_giveOn_16 rfl ?_
    refine g_get (v := .int (iI (c 0))) (C := RX3) (T := TX3) (N := 14) 0 3 (fun _ h => List.mem_cons_of_mem _ (List.mem_append_right _ h)) (List.mem_of_getElem? (i := 1) rfl) rfl rfl (by decide) rfl rfl dX3_giveOn_17 ?_
    refine g_iconst dX3_giveOn_20 ?_
    refine g_iadd dX3_giveOn_21 ?_
    refine g_put (C := RX3) (T := TX3) (N := 14) (ws1 := [(h, oo 3 (fMa n ah sa (up c 0 ((c 0) + 1)))), (sa, aI E 4 s)]) 0 3 (fun _ h => List.mem_cons_of_mem _ (List.mem_append_right _ h)) tyX3 tyX3_ok nmX3 (List.mem_of_getElem? (i := 1) rfl) rfl rfl (by decide) rfl (tyX3_ok 3 (by decide)) rfl rfl (by first | decide | exact Nat.le_of_ble_eq_true rfl) dX3_giveOn_22 rfl rfl ?_
    refine g_aload_n 0 dX3_giveOn_25 rfl rfl ?_
    refine g_iconst dX3_giveOn_26 ?_
    refine g_put (C := RX3) (T := TX3) (N := 14) (ws1 := [(h, oo 3 (fMa n ah sa (up (up c 0 ((c 0) + 1)) 2 0))), (sa, aI E 4 s)]) 0 5 (fun _ h => List.mem_cons_of_mem _ (List.mem_append_right _ h)) tyX3 tyX3_ok nmX3 (List.mem_of_getElem? (i := 3) rfl) rfl rfl (by decide) rfl (tyX3_ok 5 (by decide)) rfl rfl (by first | decide | exact Nat.le_of_ble_eq_true rfl) dX3_giveOn_27 rfl rfl ?_
    refine g_iconst dX3_giveOn_30 ?_
    exact g_iret hRet dX3_giveOn_31 rfl ⟨rfl, rfl⟩
  · exact absurd hg (by assumption)

set_option maxHeartbeats 4000000 in
set_option maxRecDepth 100000 in
theorem c_giveOn_f (E : Ev) (h : Nat) (sa : Nat) (n : Int) (ah : Value) (c : Int → Int) (s : Int → Int) (hc : mOk c) (hs : sOk s) (hg : ¬ c 0 < s 3) : MI yX3_giveOn wsX3_giveOn ({ frames := 0, cells := 0, slots := 0, locals := 0 } : Room) E [] 0 0 [.ref h] [(h, oo 3 (fMa n ah sa c)), (sa, aI E 4 s)] (fun r u => r = iI 0 ∧ u = [(h, oo 3 (fMa n ah sa c)), (sa, aI E 4 s)]) := by
  refine MI.of (cc := cX3_giveOn) (maxL := 1) (own := RX3) (by decide) rfl rfl rfl (Nat.le_of_ble_eq_true rfl) [(0, .ref h)] rfl ?_
  intro X hin2 hRet
  refine g_aload_n 0 dX3_giveOn_0 rfl rfl ?_
  refine g_get (v := .int (iI (c 0))) (C := RX3) (T := TX3) (N := 14) 0 3 (fun _ h => List.mem_cons_of_mem _ (List.mem_append_right _ h)) (List.mem_of_getElem? (i := 1) rfl) rfl rfl (by decide) rfl rfl dX3_giveOn_1 ?_
  refine g_aload_n 0 dX3_giveOn_4 rfl rfl ?_
  refine g_get (v := .ref sa) (C := RX3) (T := TX3) (N := 14) 0 2 (fun _ h => List.mem_cons_of_mem _ (List.mem_append_right _ h)) (List.mem_of_getElem? (i := 2) rfl) rfl rfl (by decide) rfl rfl dX3_giveOn_5 ?_
  refine g_iconst dX3_giveOn_8 ?_
  refine g_iald 1 dX3_giveOn_9 rfl (by decide) (by omega) (by omega) ?_
  refine g_icmp_lt (tgt := 15) (by (try unfold mOk at *); (try unfold sOk at *); unfold R32; omega) (by (try unfold mOk at *); (try unfold sOk at *); unfold R32; omega) dX3_giveOn_10 rfl (fun c_1 => ?_) (fun c_1 => ?_)
  · exact absurd (by assumption) hg
  · refine g_iconst dX3_giveOn_13 ?_
    exact g_iret hRet dX3_giveOn_14 rfl ⟨rfl, rfl⟩

set_option maxHeartbeats 4000000 in
set_option maxRecDepth 100000 in
theorem c_passes_r (E : Ev) (h : Nat) (sa : Nat) (n : Int) (ah : Value) (c : Int → Int) (s : Int → Int) (tick : Int) (hc : mOk c) (hs : sOk s) (h_tick : -2147483648 ≤ tick ∧ tick ≤ 2147483647) (ht : 0 ≤ tick ∧ tick ≤ 10000) (hp : s 1 ≠ 0 ∧ rmI (c 4 + 1) (s 1) = 0) : MI yX3_passes wsX3_passes ({ frames := 1, cells := 0, slots := 0, locals := 21 } : Room) E [] 0 0 [.ref h, .int (iI tick)] [(h, oo 3 (fMa n ah sa c)), (sa, aI E 4 s)] (fun r u => r = iI 0 ∧ u = [(h, oo 3 (fMa n ah sa (up (up (up (up (up (up c 1 0) 3 0) 4 (c 4 + 1)) 5 (c 5 + 1)) 8 (if c 7 = 0 then tick else c 8)) 7 (c 7 + 1)))), (sa, aI E 4 s)]) := by
  refine MI.of (cc := cX3_passes) (maxL := 2) (own := RX3) (by decide) rfl rfl rfl (Nat.le_of_ble_eq_true rfl) [(0, .ref h), (1, .int (iI tick))] rfl ?_
  intro X hin2 hRet
  refine g_aload_n 0 dX3_passes_0 rfl rfl ?_
  refine g_iconst dX3_passes_1 ?_
  refine g_put (C := RX3) (T := TX3) (N := 14) (ws1 := [(h, oo 3 (fMa n ah sa (up c 1 0))), (sa, aI E 4 s)]) 0 4 (fun _ h => List.mem_cons_of_mem _ (List.mem_append_right _ h)) tyX3 tyX3_ok nmX3 (List.mem_of_getElem? (i := 1) rfl) rfl rfl (by decide) rfl (tyX3_ok 4 (by decide)) rfl rfl (by first | decide | exact Nat.le_of_ble_eq_true rfl) dX3_passes_2 rfl rfl ?_
  refine g_aload_n 0 dX3_passes_5 rfl rfl ?_
  refine g_iconst dX3_passes_6 ?_
  refine g_put (C := RX3) (T := TX3) (N := 14) (ws1 := [(h, oo 3 (fMa n ah sa (up (up c 1 0) 3 0))), (sa, aI E 4 s)]) 0 6 (fun _ h => List.mem_cons_of_mem _ (List.mem_append_right _ h)) tyX3 tyX3_ok nmX3 (List.mem_of_getElem? (i := 2) rfl) rfl rfl (by decide) rfl (tyX3_ok 6 (by decide)) rfl rfl (by first | decide | exact Nat.le_of_ble_eq_true rfl) dX3_passes_7 rfl rfl ?_
  refine g_aload_n 0 dX3_passes_10 rfl rfl ?_
  refine g_dup dX3_passes_11 rfl ?_
  refine g_get (v := .int (iI (c 4))) (C := RX3) (T := TX3) (N := 14) 0 7 (fun _ h => List.mem_cons_of_mem _ (List.mem_append_right _ h)) (List.mem_of_getElem? (i := 3) rfl) rfl rfl (by decide) rfl rfl dX3_passes_12 ?_
  refine g_iconst dX3_passes_15 ?_
  refine g_iadd dX3_passes_16 ?_
  refine g_put (C := RX3) (T := TX3) (N := 14) (ws1 := [(h, oo 3 (fMa n ah sa (up (up (up c 1 0) 3 0) 4 ((c 4) + 1)))), (sa, aI E 4 s)]) 0 7 (fun _ h => List.mem_cons_of_mem _ (List.mem_append_right _ h)) tyX3 tyX3_ok nmX3 (List.mem_of_getElem? (i := 3) rfl) rfl rfl (by decide) rfl (tyX3_ok 7 (by decide)) rfl rfl (by first | decide | exact Nat.le_of_ble_eq_true rfl) dX3_passes_17 rfl rfl ?_
  refine g_aload_n 0 dX3_passes_20 rfl rfl ?_
  refine g_aload_n 0 dX3_passes_21 rfl rfl ?_
  refine g_get (v := .ref sa) (C := RX3) (T := TX3) (N := 14) 0 2 (fun _ h => List.mem_cons_of_mem _ (List.mem_append_right _ h)) (List.mem_of_getElem? (i := 4) rfl) rfl rfl (by decide) rfl rfl dX3_passes_22 ?_
  refine g_iconst dX3_passes_25 ?_
  refine g_iald 1 dX3_passes_26 rfl (by decide) (by omega) (by omega) ?_
  refine g_callV_i (n := 1) (As := [.int (iI (s 1))]) (wr := [(sa, aI E 4 s)]) (C := RX3) [] (c_X3_isEach E h sa n ah (up (up (up c 1 0) 3 0) 4 ((c 4) + 1)) (s 1) (by unfold mOk at *; simp [up]; omega) (by unfold sOk at *; omega) (by unfold sOk at *; omega)) [0] [1] 0 rfl rfl gX3_passes_X3_isEach rfl ⟨rfl, by decide +kernel⟩ ⟨by decide, by decide⟩ rfl rfl rfl rfl rfl (by decide) rfl (by decide) (by decide) (fun _ h => absurd h List.not_mem_nil) dX3_passes_27 rfl (Nat.le_of_ble_eq_true rfl) ⟨by decide, by decide⟩ (fun r u p_1 => ?_)
  obtain ⟨rfl, rfl⟩ := p_1
  refine g_perm (ws1 := [(h, oo 3 (fMa n ah sa (up (up (up c 1 0) 3 0) 4 ((c 4) + 1)))), (sa, aI E 4 s)]) [1, 0] rfl (by decide) rfl ?_
  refine g_if_eq_b (tgt := 40) dX3_passes_30 rfl (fun c_2 => ?_) (fun c_2 => ?_)
  · refine g_aload_n 0 dX3_passes_33 rfl rfl ?_
    refine g_iload_n 1 dX3_passes_34 rfl rfl ?_
    refine g_callV_v (n := 1) (As := [.int (iI tick)]) (wr := [(sa, aI E 4 s)]) (C := RX3) [] (c_X3_reject E h sa n ah (up (up (up c 1 0) 3 0) 4 ((c 4) + 1)) tick (by unfold mOk at *; simp [up]; omega) (by omega)) [0] [1] 0 rfl rfl gX3_passes_X3_reject rfl ⟨rfl, by decide +kernel⟩ ⟨by decide, by decide⟩ rfl rfl rfl rfl rfl (by decide) rfl (by decide) (by decide) (fun _ h => absurd h List.not_mem_nil) dX3_passes_35 rfl (Nat.le_of_ble_eq_true rfl) ⟨by decide, by decide⟩ (fun u p_3 => ?_)
    subst p_3
    refine g_perm (ws1 := [(h, oo 3 (fMa n ah sa (up (up (up (up (up (up c 1 0) 3 0) 4 ((c 4) + 1)) 5 ((up (up (up c 1 0) 3 0) 4 ((c 4) + 1)) 5 + 1)) 8 (if (up (up (up c 1 0) 3 0) 4 ((c 4) + 1)) 7 = 0 then tick else (up (up (up c 1 0) 3 0) 4 ((c 4) + 1)) 8)) 7 ((up (up (up c 1 0) 3 0) 4 ((c 4) + 1)) 7 + 1)))), (sa, aI E 4 s)]) [1, 0] rfl (by decide) rfl ?_
    refine g_iconst dX3_passes_38 ?_
    exact g_iret hRet dX3_passes_39 rfl ⟨rfl, rfl⟩
  · exact absurd hp (by assumption)

set_option maxHeartbeats 4000000 in
set_option maxRecDepth 100000 in
theorem c_passes_s (E : Ev) (h : Nat) (sa : Nat) (n : Int) (ah : Value) (c : Int → Int) (s : Int → Int) (tick : Int) (hc : mOk c) (hs : sOk s) (h_tick : -2147483648 ≤ tick ∧ tick ≤ 2147483647) (ht : 0 ≤ tick ∧ tick ≤ 10000) (hp : ¬ (s 1 ≠ 0 ∧ rmI (c 4 + 1) (s 1) = 0)) (hp2 : s 2 ≠ 0 ∧ rmI (c 4 + 1) (s 2) = 0) : MI yX3_passes wsX3_passes ({ frames := 1, cells := 0, slots := 0, locals := 21 } : Room) E [] 0 0 [.ref h, .int (iI tick)] [(h, oo 3 (fMa n ah sa c)), (sa, aI E 4 s)] (fun r u => r = iI 0 ∧ u = [(h, oo 3 (fMa n ah sa (up (up (up (up c 1 0) 3 0) 4 (c 4 + 1)) 6 (c 6 + 1)))), (sa, aI E 4 s)]) := by
  refine MI.of (cc := cX3_passes) (maxL := 2) (own := RX3) (by decide) rfl rfl rfl (Nat.le_of_ble_eq_true rfl) [(0, .ref h), (1, .int (iI tick))] rfl ?_
  intro X hin2 hRet
  refine g_aload_n 0 dX3_passes_0 rfl rfl ?_
  refine g_iconst dX3_passes_1 ?_
  refine g_put (C := RX3) (T := TX3) (N := 14) (ws1 := [(h, oo 3 (fMa n ah sa (up c 1 0))), (sa, aI E 4 s)]) 0 4 (fun _ h => List.mem_cons_of_mem _ (List.mem_append_right _ h)) tyX3 tyX3_ok nmX3 (List.mem_of_getElem? (i := 1) rfl) rfl rfl (by decide) rfl (tyX3_ok 4 (by decide)) rfl rfl (by first | decide | exact Nat.le_of_ble_eq_true rfl) dX3_passes_2 rfl rfl ?_
  refine g_aload_n 0 dX3_passes_5 rfl rfl ?_
  refine g_iconst dX3_passes_6 ?_
  refine g_put (C := RX3) (T := TX3) (N := 14) (ws1 := [(h, oo 3 (fMa n ah sa (up (up c 1 0) 3 0))), (sa, aI E 4 s)]) 0 6 (fun _ h => List.mem_cons_of_mem _ (List.mem_append_right _ h)) tyX3 tyX3_ok nmX3 (List.mem_of_getElem? (i := 2) rfl) rfl rfl (by decide) rfl (tyX3_ok 6 (by decide)) rfl rfl (by first | decide | exact Nat.le_of_ble_eq_true rfl) dX3_passes_7 rfl rfl ?_
  refine g_aload_n 0 dX3_passes_10 rfl rfl ?_
  refine g_dup dX3_passes_11 rfl ?_
  refine g_get (v := .int (iI (c 4))) (C := RX3) (T := TX3) (N := 14) 0 7 (fun _ h => List.mem_cons_of_mem _ (List.mem_append_right _ h)) (List.mem_of_getElem? (i := 3) rfl) rfl rfl (by decide) rfl rfl dX3_passes_12 ?_
  refine g_iconst dX3_passes_15 ?_
  refine g_iadd dX3_passes_16 ?_
  refine g_put (C := RX3) (T := TX3) (N := 14) (ws1 := [(h, oo 3 (fMa n ah sa (up (up (up c 1 0) 3 0) 4 ((c 4) + 1)))), (sa, aI E 4 s)]) 0 7 (fun _ h => List.mem_cons_of_mem _ (List.mem_append_right _ h)) tyX3 tyX3_ok nmX3 (List.mem_of_getElem? (i := 3) rfl) rfl rfl (by decide) rfl (tyX3_ok 7 (by decide)) rfl rfl (by first | decide | exact Nat.le_of_ble_eq_true rfl) dX3_passes_17 rfl rfl ?_
  refine g_aload_n 0 dX3_passes_20 rfl rfl ?_
  refine g_aload_n 0 dX3_passes_21 rfl rfl ?_
  refine g_get (v := .ref sa) (C := RX3) (T := TX3) (N := 14) 0 2 (fun _ h => List.mem_cons_of_mem _ (List.mem_append_right _ h)) (List.mem_of_getElem? (i := 4) rfl) rfl rfl (by decide) rfl rfl dX3_passes_22 ?_
  refine g_iconst dX3_passes_25 ?_
  refine g_iald 1 dX3_passes_26 rfl (by decide) (by omega) (by omega) ?_
  refine g_callV_i (n := 1) (As := [.int (iI (s 1))]) (wr := [(sa, aI E 4 s)]) (C := RX3) [] (c_X3_isEach E h sa n ah (up (up (up c 1 0) 3 0) 4 ((c 4) + 1)) (s 1) (by unfold mOk at *; simp [up]; omega) (by unfold sOk at *; omega) (by unfold sOk at *; omega)) [0] [1] 0 rfl rfl gX3_passes_X3_isEach rfl ⟨rfl, by decide +kernel⟩ ⟨by decide, by decide⟩ rfl rfl rfl rfl rfl (by decide) rfl (by decide) (by decide) (fun _ h => absurd h List.not_mem_nil) dX3_passes_27 rfl (Nat.le_of_ble_eq_true rfl) ⟨by decide, by decide⟩ (fun r u p_1 => ?_)
  obtain ⟨rfl, rfl⟩ := p_1
  refine g_perm (ws1 := [(h, oo 3 (fMa n ah sa (up (up (up c 1 0) 3 0) 4 ((c 4) + 1)))), (sa, aI E 4 s)]) [1, 0] rfl (by decide) rfl ?_
  refine g_if_eq_b (tgt := 40) dX3_passes_30 rfl (fun c_2 => ?_) (fun c_2 => ?_)
  · exact absurd (by assumption) hp
  · refine g_aload_n 0 dX3_passes_40 rfl rfl ?_
    refine g_aload_n 0 dX3_passes_41 rfl rfl ?_
    refine g_get (v := .ref sa) (C := RX3) (T := TX3) (N := 14) 0 2 (fun _ h => List.mem_cons_of_mem _ (List.mem_append_right _ h)) (List.mem_of_getElem? (i := 4) rfl) rfl rfl (by decide) rfl rfl dX3_passes_42 ?_
    refine g_iconst dX3_passes_45 ?_
    refine g_iald 1 dX3_passes_46 rfl (by decide) (by omega) (by omega) ?_
    refine g_callV_i (n := 1) (As := [.int (iI (s 2))]) (wr := [(sa, aI E 4 s)]) (C := RX3) [] (c_X3_isEach E h sa n ah (up (up (up c 1 0) 3 0) 4 ((c 4) + 1)) (s 2) (by unfold mOk at *; simp [up]; omega) (by unfold sOk at *; omega) (by unfold sOk at *; omega)) [0] [1] 0 rfl rfl gX3_passes_X3_isEach rfl ⟨rfl, by decide +kernel⟩ ⟨by decide, by decide⟩ rfl rfl rfl rfl rfl (by decide) rfl (by decide) (by decide) (fun _ h => absurd h List.not_mem_nil) dX3_passes_47 rfl (Nat.le_of_ble_eq_true rfl) ⟨by decide, by decide⟩ (fun r u p_3 => ?_)
    obtain ⟨rfl, rfl⟩ := p_3
    refine g_perm (ws1 := [(h, oo 3 (fMa n ah sa (up (up (up c 1 0) 3 0) 4 ((c 4) + 1)))), (sa, aI E 4 s)]) [1, 0] rfl (by decide) rfl ?_
    refine g_if_eq_b (tgt := 65) dX3_passes_50 rfl (fun c_4 => ?_) (fun c_4 => ?_)
    · refine g_aload_n 0 dX3_passes_53 rfl rfl ?_
      refine g_dup dX3_passes_54 rfl ?_
      refine g_get (v := .int (iI ((up (up (up c 1 0) 3 0) 4 ((c 4) + 1)) 6))) (C := RX3) (T := TX3) (N := 14) 0 9 (fun _ h => List.mem_cons_of_mem _ (List.mem_append_right _ h)) (List.mem_of_getElem? (i := 5) rfl) rfl rfl (by decide) rfl rfl dX3_passes_55 ?_
      refine g_iconst dX3_passes_58 ?_
      refine g_iadd dX3_passes_59 ?_
      refine g_put (C := RX3) (T := TX3) (N := 14) (ws1 := [(h, oo 3 (fMa n ah sa (up (up (up (up c 1 0) 3 0) 4 ((c 4) + 1)) 6 (((up (up (up c 1 0) 3 0) 4 ((c 4) + 1)) 6) + 1)))), (sa, aI E 4 s)]) 0 9 (fun _ h => List.mem_cons_of_mem _ (List.mem_append_right _ h)) tyX3 tyX3_ok nmX3 (List.mem_of_getElem? (i := 5) rfl) rfl rfl (by decide) rfl (tyX3_ok 9 (by decide)) rfl rfl (by first | decide | exact Nat.le_of_ble_eq_true rfl) dX3_passes_60 rfl rfl ?_
      refine g_iconst dX3_passes_63 ?_
      exact g_iret hRet dX3_passes_64 rfl ⟨rfl, rfl⟩
    · exact absurd hp2 (by assumption)

set_option maxHeartbeats 4000000 in
set_option maxRecDepth 100000 in
theorem c_passes_o (E : Ev) (h : Nat) (sa : Nat) (n : Int) (ah : Value) (c : Int → Int) (s : Int → Int) (tick : Int) (hc : mOk c) (hs : sOk s) (h_tick : -2147483648 ≤ tick ∧ tick ≤ 2147483647) (ht : 0 ≤ tick ∧ tick ≤ 10000) (hp : ¬ (s 1 ≠ 0 ∧ rmI (c 4 + 1) (s 1) = 0)) (hp2 : ¬ (s 2 ≠ 0 ∧ rmI (c 4 + 1) (s 2) = 0)) : MI yX3_passes wsX3_passes ({ frames := 1, cells := 0, slots := 0, locals := 21 } : Room) E [] 0 0 [.ref h, .int (iI tick)] [(h, oo 3 (fMa n ah sa c)), (sa, aI E 4 s)] (fun r u => r = iI 1 ∧ u = [(h, oo 3 (fMa n ah sa (up (up (up c 1 0) 3 0) 4 (c 4 + 1)))), (sa, aI E 4 s)]) := by
  refine MI.of (cc := cX3_passes) (maxL := 2) (own := RX3) (by decide) rfl rfl rfl (Nat.le_of_ble_eq_true rfl) [(0, .ref h), (1, .int (iI tick))] rfl ?_
  intro X hin2 hRet
  refine g_aload_n 0 dX3_passes_0 rfl rfl ?_
  refine g_iconst dX3_passes_1 ?_
  refine g_put (C := RX3) (T := TX3) (N := 14) (ws1 := [(h, oo 3 (fMa n ah sa (up c 1 0))), (sa, aI E 4 s)]) 0 4 (fun _ h => List.mem_cons_of_mem _ (List.mem_append_right _ h)) tyX3 tyX3_ok nmX3 (List.mem_of_getElem? (i := 1) rfl) rfl rfl (by decide) rfl (tyX3_ok 4 (by decide)) rfl rfl (by first | decide | exact Nat.le_of_ble_eq_true rfl) dX3_passes_2 rfl rfl ?_
  refine g_aload_n 0 dX3_passes_5 rfl rfl ?_
  refine g_iconst dX3_passes_6 ?_
  refine g_put (C := RX3) (T := TX3) (N := 14) (ws1 := [(h, oo 3 (fMa n ah sa (up (up c 1 0) 3 0))), (sa, aI E 4 s)]) 0 6 (fun _ h => List.mem_cons_of_mem _ (List.mem_append_right _ h)) tyX3 tyX3_ok nmX3 (List.mem_of_getElem? (i := 2) rfl) rfl rfl (by decide) rfl (tyX3_ok 6 (by decide)) rfl rfl (by first | decide | exact Nat.le_of_ble_eq_true rfl) dX3_passes_7 rfl rfl ?_
  refine g_aload_n 0 dX3_passes_10 rfl rfl ?_
  refine g_dup dX3_passes_11 rfl ?_
  refine g_get (v := .int (iI (c 4))) (C := RX3) (T := TX3) (N := 14) 0 7 (fun _ h => List.mem_cons_of_mem _ (List.mem_append_right _ h)) (List.mem_of_getElem? (i := 3) rfl) rfl rfl (by decide) rfl rfl dX3_passes_12 ?_
  refine g_iconst dX3_passes_15 ?_
  refine g_iadd dX3_passes_16 ?_
  refine g_put (C := RX3) (T := TX3) (N := 14) (ws1 := [(h, oo 3 (fMa n ah sa (up (up (up c 1 0) 3 0) 4 ((c 4) + 1)))), (sa, aI E 4 s)]) 0 7 (fun _ h => List.mem_cons_of_mem _ (List.mem_append_right _ h)) tyX3 tyX3_ok nmX3 (List.mem_of_getElem? (i := 3) rfl) rfl rfl (by decide) rfl (tyX3_ok 7 (by decide)) rfl rfl (by first | decide | exact Nat.le_of_ble_eq_true rfl) dX3_passes_17 rfl rfl ?_
  refine g_aload_n 0 dX3_passes_20 rfl rfl ?_
  refine g_aload_n 0 dX3_passes_21 rfl rfl ?_
  refine g_get (v := .ref sa) (C := RX3) (T := TX3) (N := 14) 0 2 (fun _ h => List.mem_cons_of_mem _ (List.mem_append_right _ h)) (List.mem_of_getElem? (i := 4) rfl) rfl rfl (by decide) rfl rfl dX3_passes_22 ?_
  refine g_iconst dX3_passes_25 ?_
  refine g_iald 1 dX3_passes_26 rfl (by decide) (by omega) (by omega) ?_
  refine g_callV_i (n := 1) (As := [.int (iI (s 1))]) (wr := [(sa, aI E 4 s)]) (C := RX3) [] (c_X3_isEach E h sa n ah (up (up (up c 1 0) 3 0) 4 ((c 4) + 1)) (s 1) (by unfold mOk at *; simp [up]; omega) (by unfold sOk at *; omega) (by unfold sOk at *; omega)) [0] [1] 0 rfl rfl gX3_passes_X3_isEach rfl ⟨rfl, by decide +kernel⟩ ⟨by decide, by decide⟩ rfl rfl rfl rfl rfl (by decide) rfl (by decide) (by decide) (fun _ h => absurd h List.not_mem_nil) dX3_passes_27 rfl (Nat.le_of_ble_eq_true rfl) ⟨by decide, by decide⟩ (fun r u p_1 => ?_)
  obtain ⟨rfl, rfl⟩ := p_1
  refine g_perm (ws1 := [(h, oo 3 (fMa n ah sa (up (up (up c 1 0) 3 0) 4 ((c 4) + 1)))), (sa, aI E 4 s)]) [1, 0] rfl (by decide) rfl ?_
  refine g_if_eq_b (tgt := 40) dX3_passes_30 rfl (fun c_2 => ?_) (fun c_2 => ?_)
  · exact absurd (by assumption) hp
  · refine g_aload_n 0 dX3_passes_40 rfl rfl ?_
    refine g_aload_n 0 dX3_passes_41 rfl rfl ?_
    refine g_get (v := .ref sa) (C := RX3) (T := TX3) (N := 14) 0 2 (fun _ h => List.mem_cons_of_mem _ (List.mem_append_right _ h)) (List.mem_of_getElem? (i := 4) rfl) rfl rfl (by decide) rfl rfl dX3_passes_42 ?_
    refine g_iconst dX3_passes_45 ?_
    refine g_iald 1 dX3_passes_46 rfl (by decide) (by omega) (by omega) ?_
    refine g_callV_i (n := 1) (As := [.int (iI (s 2))]) (wr := [(sa, aI E 4 s)]) (C := RX3) [] (c_X3_isEach E h sa n ah (up (up (up c 1 0) 3 0) 4 ((c 4) + 1)) (s 2) (by unfold mOk at *; simp [up]; omega) (by unfold sOk at *; omega) (by unfold sOk at *; omega)) [0] [1] 0 rfl rfl gX3_passes_X3_isEach rfl ⟨rfl, by decide +kernel⟩ ⟨by decide, by decide⟩ rfl rfl rfl rfl rfl (by decide) rfl (by decide) (by decide) (fun _ h => absurd h List.not_mem_nil) dX3_passes_47 rfl (Nat.le_of_ble_eq_true rfl) ⟨by decide, by decide⟩ (fun r u p_3 => ?_)
    obtain ⟨rfl, rfl⟩ := p_3
    refine g_perm (ws1 := [(h, oo 3 (fMa n ah sa (up (up (up c 1 0) 3 0) 4 ((c 4) + 1)))), (sa, aI E 4 s)]) [1, 0] rfl (by decide) rfl ?_
    refine g_if_eq_b (tgt := 65) dX3_passes_50 rfl (fun c_4 => ?_) (fun c_4 => ?_)
    · exact absurd (by assumption) hp2
    · refine g_iconst dX3_passes_65 ?_
      exact g_iret hRet dX3_passes_66 rfl ⟨rfl, rfl⟩

set_option maxHeartbeats 4000000 in
set_option maxRecDepth 100000 in
theorem c_X2_clear (E : Ev) (fo : Nat) (f1 : Nat) (f2 : Nat) (f3 : Nat) (nf : Int)  : MV yX2_clear wsX2_clear ({ frames := 0, cells := 0, slots := 0, locals := 0 } : Room) E [] 0 0 [.ref fo] [(fo, oo 2 [.ref f1, .ref f2, .ref f3, .int (iI nf)])] (fun u => u = [(fo, oo 2 [.ref f1, .ref f2, .ref f3, .int (iI 0)])]) := by
  refine MV.of (cc := cX2_clear) (maxL := 1) (own := RX2) (by decide) rfl rfl rfl (Nat.le_of_ble_eq_true rfl) [(0, .ref fo)] rfl ?_
  intro X hin2 hRet
  refine g_aload_n 0 dX2_clear_0 rfl rfl ?_
  refine g_iconst dX2_clear_1 ?_
  refine g_put (C := RX2) (T := TX2) (N := 4) (ws1 := [(fo, oo 2 [.ref f1, .ref f2, .ref f3, .int (iI 0)])]) 0 3 (fun _ h => List.mem_cons_of_mem _ (List.mem_append_right _ h)) tyX2 tyX2_ok nmX2 (List.mem_of_getElem? (i := 1) rfl) rfl rfl (by decide) rfl (tyX2_ok 3 (by decide)) rfl rfl (by first | decide | exact Nat.le_of_ble_eq_true rfl) dX2_clear_2 rfl rfl ?_
  exact g_vret hRet dX2_clear_5 rfl

def sFault (nf : Int) (fm fa fb : Int → Int) (k a b x nf' : Int) (fm' fa' fb' : Int → Int) : Prop :=
  if 8 ≤ nf then x = -3 ∧ nf' = nf ∧ fm' = fm ∧ fa' = fa ∧ fb' = fb else x = nf + 1 ∧ nf' = nf + 1 ∧ fm' = up fm nf k ∧ fa' = up fa nf a ∧ fb' = up fb nf b

set_option maxHeartbeats 4000000 in
set_option maxRecDepth 100000 in
theorem c_X2_add (E : Ev) (fo : Nat) (f1 : Nat) (f2 : Nat) (f3 : Nat) (nf : Int) (fm : Int → Int) (fa : Int → Int) (fb : Int → Int) (k : Int) (a : Int) (b : Int) (hnf : 0 ≤ nf ∧ nf ≤ 8) (hfm : ∀ k, 0 ≤ fm k ∧ fm k ≤ 5) (hfa : ∀ k, 0 ≤ fa k ∧ fa k ≤ 9999) (hfb : ∀ k, 0 ≤ fb k ∧ fb k ≤ 9999) : MI yX2_add wsX2_add ({ frames := 0, cells := 0, slots := 0, locals := 0 } : Room) E [] 0 0 [.ref fo, .int (iI k), .int (iI a), .int (iI b)] [(fo, oo 2 [.ref f1, .ref f2, .ref f3, .int (iI nf)]), (f1, aI E 8 fm), (f2, aI E 8 fa), (f3, aI E 8 fb)] (fun r u => ∃ (x : Int), ∃ (nf' : Int), ∃ (fm' : Int → Int), ∃ (fa' : Int → Int), ∃ (fb' : Int → Int), sFault nf fm fa fb k a b x nf' fm' fa' fb' ∧ r = iI x ∧ u = [(fo, oo 2 [.ref f1, .ref f2, .ref f3, .int (iI nf')]), (f1, aI E 8 fm'), (f2, aI E 8 fa'), (f3, aI E 8 fb')]) := by
  refine MI.of (cc := cX2_add) (maxL := 4) (own := RX2) (by decide) rfl rfl rfl (Nat.le_of_ble_eq_true rfl) [(0, .ref fo), (1, .int (iI k)), (2, .int (iI a)), (3, .int (iI b))] rfl ?_
  intro X hin2 hRet
  refine g_aload_n 0 dX2_add_0 rfl rfl ?_
  refine g_get (C := RX2) (T := TX2) (N := 4) 0 3 (fun _ h => List.mem_cons_of_mem _ (List.mem_append_right _ h)) (List.mem_of_getElem? (i := 1) rfl) rfl rfl (by decide) rfl rfl dX2_add_1 ?_
  refine g_bipush dX2_add_4 rfl ?_
  refine g_icmp_lt (tgt := 12) (by unfold R32; omega) (by unfold R32; omega) dX2_add_6 rfl (fun c_1 => ?_) (fun c_1 => ?_)
  · refine g_aload_n 0 dX2_add_12 rfl rfl ?_
    refine g_get (C := RX2) (T := TX2) (N := 4) 0 0 (fun _ h => List.mem_cons_of_mem _ (List.mem_append_right _ h)) (List.mem_of_getElem? (i := 2) rfl) rfl rfl (by decide) rfl rfl dX2_add_13 ?_
    refine g_aload_n 0 dX2_add_16 rfl rfl ?_
    refine g_get (C := RX2) (T := TX2) (N := 4) 0 3 (fun _ h => List.mem_cons_of_mem _ (List.mem_append_right _ h)) (List.mem_of_getElem? (i := 1) rfl) rfl rfl (by decide) rfl rfl dX2_add_17 ?_
    refine g_iload_n 1 dX2_add_20 rfl rfl ?_
    refine g_iast (ws1 := [(fo, oo 2 [.ref f1, .ref f2, .ref f3, .int (iI nf)]), (f1, aI E 8 (up fm nf k)), (f2, aI E 8 fa), (f3, aI E 8 fb)]) 1 dX2_add_21 rfl rfl (by decide) (by omega) (by omega) ?_
    refine g_aload_n 0 dX2_add_22 rfl rfl ?_
    refine g_get (C := RX2) (T := TX2) (N := 4) 0 1 (fun _ h => List.mem_cons_of_mem _ (List.mem_append_right _ h)) (List.mem_of_getElem? (i := 3) rfl) rfl rfl (by decide) rfl rfl dX2_add_23 ?_
    refine g_aload_n 0 dX2_add_26 rfl rfl ?_
    refine g_get (C := RX2) (T := TX2) (N := 4) 0 3 (fun _ h => List.mem_cons_of_mem _ (List.mem_append_right _ h)) (List.mem_of_getElem? (i := 1) rfl) rfl rfl (by decide) rfl rfl dX2_add_27 ?_
    refine g_iload_n 2 dX2_add_30 rfl rfl ?_
    refine g_iast (ws1 := [(fo, oo 2 [.ref f1, .ref f2, .ref f3, .int (iI nf)]), (f1, aI E 8 (up fm nf k)), (f2, aI E 8 (up fa nf a)), (f3, aI E 8 fb)]) 2 dX2_add_31 rfl rfl (by decide) (by omega) (by omega) ?_
    refine g_aload_n 0 dX2_add_32 rfl rfl ?_
    refine g_get (C := RX2) (T := TX2) (N := 4) 0 2 (fun _ h => List.mem_cons_of_mem _ (List.mem_append_right _ h)) (List.mem_of_getElem? (i := 4) rfl) rfl rfl (by decide) rfl rfl dX2_add_33 ?_
    refine g_aload_n 0 dX2_add_36 rfl rfl ?_
    refine g_get (C := RX2) (T := TX2) (N := 4) 0 3 (fun _ h => List.mem_cons_of_mem _ (List.mem_append_right _ h)) (List.mem_of_getElem? (i := 1) rfl) rfl rfl (by decide) rfl rfl dX2_add_37 ?_
    refine g_iload_n 3 dX2_add_40 rfl rfl ?_
    refine g_iast (ws1 := [(fo, oo 2 [.ref f1, .ref f2, .ref f3, .int (iI nf)]), (f1, aI E 8 (up fm nf k)), (f2, aI E 8 (up fa nf a)), (f3, aI E 8 (up fb nf b))]) 3 dX2_add_41 rfl rfl (by decide) (by omega) (by omega) ?_
    refine g_aload_n 0 dX2_add_42 rfl rfl ?_
    refine g_dup dX2_add_43 rfl ?_
    refine g_get (C := RX2) (T := TX2) (N := 4) 0 3 (fun _ h => List.mem_cons_of_mem _ (List.mem_append_right _ h)) (List.mem_of_getElem? (i := 1) rfl) rfl rfl (by decide) rfl rfl dX2_add_44 ?_
    refine g_iconst dX2_add_47 ?_
    refine g_iadd dX2_add_48 ?_
    refine g_put (C := RX2) (T := TX2) (N := 4) (ws1 := [(fo, oo 2 [.ref f1, .ref f2, .ref f3, .int (iI (nf + 1))]), (f1, aI E 8 (up fm nf k)), (f2, aI E 8 (up fa nf a)), (f3, aI E 8 (up fb nf b))]) 0 3 (fun _ h => List.mem_cons_of_mem _ (List.mem_append_right _ h)) tyX2 tyX2_ok nmX2 (List.mem_of_getElem? (i := 1) rfl) rfl rfl (by decide) rfl (tyX2_ok 3 (by decide)) rfl rfl (by first | decide | exact Nat.le_of_ble_eq_true rfl) dX2_add_49 rfl rfl ?_
    refine g_aload_n 0 dX2_add_52 rfl rfl ?_
    refine g_get (C := RX2) (T := TX2) (N := 4) 0 3 (fun _ h => List.mem_cons_of_mem _ (List.mem_append_right _ h)) (List.mem_of_getElem? (i := 1) rfl) rfl rfl (by decide) rfl rfl dX2_add_53 ?_
    exact g_iret hRet dX2_add_56 rfl ⟨(nf + 1), (nf + 1), (up fm nf k), (up fa nf a), (up fb nf b), (by unfold sFault; rw [if_neg (by omega)]; exact ⟨rfl, rfl, rfl, rfl, rfl⟩), rfl, rfl⟩
  · refine g_bipush dX2_add_9 rfl ?_
    exact g_iret hRet dX2_add_11 rfl ⟨(-3), nf, fm, fa, fb, (by unfold sFault; rw [if_pos (by omega)]; exact ⟨rfl, rfl, rfl, rfl, rfl⟩), rfl, rfl⟩

set_option maxHeartbeats 4000000 in
set_option maxRecDepth 100000 in
theorem c_X2_stop (E : Ev) (fo : Nat) (f1 : Nat) (f2 : Nat) (f3 : Nat) (nf : Int) (fm : Int → Int) (fa : Int → Int) (fb : Int → Int) (k : Int) (t : Int) (hnf : 0 ≤ nf ∧ nf ≤ 8) (hfm : ∀ k, 0 ≤ fm k ∧ fm k ≤ 5) (hfa : ∀ k, 0 ≤ fa k ∧ fa k ≤ 9999) (hfb : ∀ k, 0 ≤ fb k ∧ fb k ≤ 9999) (hk : 0 ≤ k ∧ k ≤ 5) (ht : 0 ≤ t ∧ t ≤ 10000) : MI yX2_stop wsX2_stop ({ frames := 1, cells := 0, slots := 0, locals := 22 } : Room) E [] 0 0 [.ref fo, .int (iI k), .int (iI t)] [(fo, oo 2 [.ref f1, .ref f2, .ref f3, .int (iI nf)]), (f1, aI E 8 fm), (f2, aI E 8 fa), (f3, aI E 8 fb)] (fun r u => r = iI (bI (fl fm fa fb k t nf = true)) ∧ u = [(fo, oo 2 [.ref f1, .ref f2, .ref f3, .int (iI nf)]), (f1, aI E 8 fm), (f2, aI E 8 fa), (f3, aI E 8 fb)]) := by
  refine MI.of (cc := cX2_stop) (maxL := 4) (own := RX2) (by decide) rfl rfl rfl (Nat.le_of_ble_eq_true rfl) [(0, .ref fo), (1, .int (iI k)), (2, .int (iI t))] rfl ?_
  intro X hin2 hRet
  refine g_iconst dX2_stop_0 ?_
  refine g_istore_n (lv1 := [(3, .int (iI 0)), (0, .ref fo), (1, .int (iI k)), (2, .int (iI t))]) dX2_stop_1 rfl (by decide) rfl ?_
  refine g_lv (lv1 := [(0, .ref fo), (1, .int (iI k)), (2, .int (iI t)), (3, .int (iI 0))]) [1, 2, 3, 0] rfl ?_
  have L2 : ∀ (nn : Nat) (i : Int) (hi : 0 ≤ i ∧ i ≤ nf) (hf : fl fm fa fb k t i = false) (hm : nf - i < (nn : Int)), G X ({ frames := 1, cells := 0, slots := 0, locals := 22 } : Room) cX2_stop 4 RX2 wsX2_stop E [] 0 0 [(fo, oo 2 [.ref f1, .ref f2, .ref f3, .int (iI nf)]), (f1, aI E 8 fm), (f2, aI E 8 fa), (f3, aI E 8 fb)] [(0, .ref fo), (1, .int (iI k)), (2, .int (iI t)), (3, .int (iI i))] 2 [] := by
    intro nn
    induction nn with
    | zero => intro i hi hf hm; exfalso; omega
    | succ nn ih2 =>
      intro i hi hf hm
      refine g_iload_n 3 dX2_stop_2 rfl rfl ?_
      refine g_aload_n 0 dX2_stop_3 rfl rfl ?_
      refine g_get (C := RX2) (T := TX2) (N := 4) 0 3 (fun _ h => List.mem_cons_of_mem _ (List.mem_append_right _ h)) (List.mem_of_getElem? (i := 1) rfl) rfl rfl (by decide) rfl rfl dX2_stop_4 ?_
      refine g_icmp_ge (tgt := 47) (by unfold R32; omega) (by unfold R32; omega) dX2_stop_7 rfl (fun c_1 => ?_) (fun c_1 => ?_)
      · refine g_iconst dX2_stop_47 ?_
        exact g_iret hRet dX2_stop_48 rfl ⟨(by exact bI_f (by rw [show nf = i by omega, hf]; exact Bool.false_ne_true)), rfl⟩
      · refine g_aload_n 0 dX2_stop_10 rfl rfl ?_
        refine g_get (C := RX2) (T := TX2) (N := 4) 0 0 (fun _ h => List.mem_cons_of_mem _ (List.mem_append_right _ h)) (List.mem_of_getElem? (i := 2) rfl) rfl rfl (by decide) rfl rfl dX2_stop_11 ?_
        refine g_iload_n 3 dX2_stop_14 rfl rfl ?_
        refine g_iald 1 dX2_stop_15 rfl (by decide) (by omega) (by omega) ?_
        have q_2 := hfm i
        refine g_iload_n 1 dX2_stop_16 rfl rfl ?_
        refine g_icmp_ne (tgt := 41) (by unfold R32; omega) (by unfold R32; omega) dX2_stop_17 rfl (fun hk1 => ?_) (fun hk1 => ?_)
        · refine g_iload_n 2 dX2_stop_20 rfl rfl ?_
          refine g_aload_n 0 dX2_stop_21 rfl rfl ?_
          refine g_get (C := RX2) (T := TX2) (N := 4) 0 1 (fun _ h => List.mem_cons_of_mem _ (List.mem_append_right _ h)) (List.mem_of_getElem? (i := 3) rfl) rfl rfl (by decide) rfl rfl dX2_stop_22 ?_
          refine g_iload_n 3 dX2_stop_25 rfl rfl ?_
          refine g_iald 2 dX2_stop_26 rfl (by decide) (by omega) (by omega) ?_
          have q_3 := hfa i
          refine g_aload_n 0 dX2_stop_27 rfl rfl ?_
          refine g_get (C := RX2) (T := TX2) (N := 4) 0 2 (fun _ h => List.mem_cons_of_mem _ (List.mem_append_right _ h)) (List.mem_of_getElem? (i := 4) rfl) rfl rfl (by decide) rfl rfl dX2_stop_28 ?_
          refine g_iload_n 3 dX2_stop_31 rfl rfl ?_
          refine g_iald 3 dX2_stop_32 rfl (by decide) (by omega) (by omega) ?_
          have q_4 := hfb i
          refine g_callN_i (n := 3) (As := [.int (iI t), .int (iI (fa i)), .int (iI (fb i))]) (wr := [(fo, oo 2 [.ref f1, .ref f2, .ref f3, .int (iI nf)]), (f1, aI E 8 fm), (f2, aI E 8 fa), (f3, aI E 8 fb)]) [] (c_X6_within E t (fa i) (fb i) (by omega) (by omega) (by omega)) [] [0, 1, 2, 3] gX2_stop_X6_within_n25 (fun _ h => h.2.2.2.1) (List.mem_of_getElem? (i := 6) rfl) (List.mem_of_getElem? (i := 5) rfl) rfl (by decide +kernel) ⟨by decide, by decide⟩ rfl rfl rfl rfl rfl (by decide) rfl (by decide) (by decide) (fun _ h => absurd h List.not_mem_nil) dX2_stop_33 rfl (Nat.le_of_ble_eq_true rfl) ⟨by decide, by decide⟩ (fun r u p_5 => ?_)
          obtain ⟨rfl, rfl⟩ := p_5
          refine g_perm (ws1 := [(fo, oo 2 [.ref f1, .ref f2, .ref f3, .int (iI nf)]), (f1, aI E 8 fm), (f2, aI E 8 fa), (f3, aI E 8 fb)]) [0, 1, 2, 3] rfl (by decide) rfl ?_
          refine g_if_eq_b (tgt := 41) dX2_stop_36 rfl (fun hin => ?_) (fun hin => ?_)
          · refine g_iconst dX2_stop_39 ?_
            exact g_iret hRet dX2_stop_40 rfl ⟨(by exact bI_t (fl_mono (i := i + 1) (by rw [fl_s _ _ _ _ _ (by omega), hf, Bool.false_or]; simp only [Bool.and_eq_true, decide_eq_true_eq]; omega) (by omega) (by omega))), rfl⟩
          · refine g_iinc (lv1 := [(3, .int (iI (i + 1))), (0, .ref fo), (1, .int (iI k)), (2, .int (iI t))]) 3 dX2_stop_41 rfl (by decide) rfl ?_
            refine g_goto (tgt := 2) dX2_stop_44 rfl ?_
            refine g_lv (lv1 := [(0, .ref fo), (1, .int (iI k)), (2, .int (iI t)), (3, .int (iI (i + 1)))]) [1, 2, 3, 0] rfl ?_
            exact ih2 (i + 1) (by omega) (by rw [fl_s _ _ _ _ _ (by omega), hf, Bool.false_or]; simp only [Bool.and_eq_false_iff, decide_eq_false_iff_not]; omega) (by omega)
        · refine g_iinc (lv1 := [(3, .int (iI (i + 1))), (0, .ref fo), (1, .int (iI k)), (2, .int (iI t))]) 3 dX2_stop_41 rfl (by decide) rfl ?_
          refine g_goto (tgt := 2) dX2_stop_44 rfl ?_
          refine g_lv (lv1 := [(0, .ref fo), (1, .int (iI k)), (2, .int (iI t)), (3, .int (iI (i + 1)))]) [1, 2, 3, 0] rfl ?_
          exact ih2 (i + 1) (by omega) (by rw [fl_s _ _ _ _ _ (by omega), hf, Bool.false_or]; simp only [Bool.and_eq_false_iff, decide_eq_false_iff_not]; omega) (by omega)
  exact L2 _ 0 (by omega) (by rfl) (lt_nn _)

set_option maxHeartbeats 4000000 in
set_option maxRecDepth 100000 in
theorem c_X1_machineAt (E : Ev) (v : Nat) (ma : Nat) (fo : Nat) (la : Nat) (M : Int) (ti : Int) (so : Int) (ta : Int) (go : Int) (sl : Int) (mq : Int → Option Nat) (ad : Int → Nat) (i : Int) (hM : 2 ≤ M ∧ M ≤ 6) (hti : 0 ≤ ti ∧ ti ≤ 10000) (hso : 0 ≤ so ∧ so ≤ 100000) (hgo : 0 ≤ go ∧ go ≤ 20000) (hmq : ∀ k, 0 ≤ k → k < 6 → mq k = some (ad k)) (h_i : -2147483648 ≤ i ∧ i ≤ 2147483647) : MR yX1_machineAt wsX1_machineAt ({ frames := 0, cells := 0, slots := 0, locals := 0 } : Room) E [] 0 0 [.ref v, .int (iI i)] [(v, oo 1 [.ref ma, .int (iI M), .ref fo, .ref la, .int (iI ti), .int (iI so), .int (iI ta), .int (iI go), .int (iI sl)]), (ma, aM E 6 mq)] (fun r u => r = (if 0 ≤ i ∧ i < M then some (ad i) else none) ∧ u = [(v, oo 1 [.ref ma, .int (iI M), .ref fo, .ref la, .int (iI ti), .int (iI so), .int (iI ta), .int (iI go), .int (iI sl)]), (ma, aM E 6 mq)]) := by
  refine MR.of (cc := cX1_machineAt) (maxL := 2) (own := RX1) (by decide) rfl rfl rfl (Nat.le_of_ble_eq_true rfl) [(0, .ref v), (1, .int (iI i))] rfl ?_
  intro X hin2 hRet
  refine g_iload_n 1 dX1_machineAt_0 rfl rfl ?_
  refine g_if_lt (tgt := 27) (by unfold R32; omega) dX1_machineAt_1 rfl (fun c_1 => ?_) (fun c_1 => ?_)
  · refine g_null dX1_machineAt_27 ?_
    exact g_aret none hRet dX1_machineAt_28 rfl ⟨(by first | (rw [if_pos (by omega)]; exact hmq i (by omega) (by omega)) | (rw [if_neg (by omega)]; done)), rfl⟩
  · refine g_iload_n 1 dX1_machineAt_4 rfl rfl ?_
    refine g_aload_n 0 dX1_machineAt_5 rfl rfl ?_
    refine g_get (C := RX1) (T := TX1) (N := 9) 0 1 (fun _ h => List.mem_cons_of_mem _ (List.mem_append_right _ h)) (List.mem_of_getElem? (i := 1) rfl) rfl rfl (by decide) rfl rfl dX1_machineAt_6 ?_
    refine g_icmp_ge (tgt := 27) (by unfold R32; omega) (by unfold R32; omega) dX1_machineAt_9 rfl (fun c_2 => ?_) (fun c_2 => ?_)
    · refine g_null dX1_machineAt_27 ?_
      exact g_aret none hRet dX1_machineAt_28 rfl ⟨(by first | (rw [if_pos (by omega)]; exact hmq i (by omega) (by omega)) | (rw [if_neg (by omega)]; done)), rfl⟩
    · refine g_iload_n 1 dX1_machineAt_12 rfl rfl ?_
      refine g_bipush dX1_machineAt_13 rfl ?_
      refine g_icmp_ge (tgt := 27) (by unfold R32; omega) (by unfold R32; omega) dX1_machineAt_15 rfl (fun c_3 => ?_) (fun c_3 => ?_)
      · refine g_null dX1_machineAt_27 ?_
        exact g_aret none hRet dX1_machineAt_28 rfl ⟨(by first | (rw [if_pos (by omega)]; exact hmq i (by omega) (by omega)) | (rw [if_neg (by omega)]; done)), rfl⟩
      · refine g_aload_n 0 dX1_machineAt_18 rfl rfl ?_
        refine g_get (C := RX1) (T := TX1) (N := 9) 0 0 (fun _ h => List.mem_cons_of_mem _ (List.mem_append_right _ h)) (List.mem_of_getElem? (i := 2) rfl) rfl rfl (by decide) rfl rfl dX1_machineAt_19 ?_
        refine g_iload_n 1 dX1_machineAt_22 rfl rfl ?_
        refine g_aald 1 dX1_machineAt_23 rfl (by decide) (by omega) (by omega) ?_
        refine g_goto (tgt := 28) dX1_machineAt_24 rfl ?_
        exact g_aret (mq i) hRet dX1_machineAt_28 rfl ⟨(by first | (rw [if_pos (by omega)]; exact hmq i (by omega) (by omega)) | (rw [if_neg (by omega)]; done)), rfl⟩

set_option maxHeartbeats 4000000 in
set_option maxRecDepth 100000 in
theorem c_X1_last (E : Ev) (v : Nat) (ma : Nat) (fo : Nat) (la : Nat) (M : Int) (ti : Int) (so : Int) (ta : Int) (go : Int) (sl : Int) (mq : Int → Option Nat) (ad : Int → Nat) (hM : 2 ≤ M ∧ M ≤ 6) (hti : 0 ≤ ti ∧ ti ≤ 10000) (hso : 0 ≤ so ∧ so ≤ 100000) (hgo : 0 ≤ go ∧ go ≤ 20000) (hmq : ∀ k, 0 ≤ k → k < 6 → mq k = some (ad k)) : MR yX1_last wsX1_last ({ frames := 1, cells := 0, slots := 0, locals := 21 } : Room) E [] 0 0 [.ref v] [(v, oo 1 [.ref ma, .int (iI M), .ref fo, .ref la, .int (iI ti), .int (iI so), .int (iI ta), .int (iI go), .int (iI sl)]), (ma, aM E 6 mq)] (fun r u => r = (some (ad (M - 1))) ∧ u = [(v, oo 1 [.ref ma, .int (iI M), .ref fo, .ref la, .int (iI ti), .int (iI so), .int (iI ta), .int (iI go), .int (iI sl)]), (ma, aM E 6 mq)]) := by
  refine MR.of (cc := cX1_last) (maxL := 1) (own := RX1) (by decide) rfl rfl rfl (Nat.le_of_ble_eq_true rfl) [(0, .ref v)] rfl ?_
  intro X hin2 hRet
  refine g_aload_n 0 dX1_last_0 rfl rfl ?_
  refine g_aload_n 0 dX1_last_1 rfl rfl ?_
  refine g_get (C := RX1) (T := TX1) (N := 9) 0 1 (fun _ h => List.mem_cons_of_mem _ (List.mem_append_right _ h)) (List.mem_of_getElem? (i := 1) rfl) rfl rfl (by decide) rfl rfl dX1_last_2 ?_
  refine g_iconst dX1_last_5 ?_
  refine g_isub dX1_last_6 ?_
  refine g_callV_q (n := 1) (As := [.int (iI (M - 1))]) (wr := []) (C := RX1) [] (c_X1_machineAt E v ma fo la M ti so ta go sl mq ad (M - 1) (by omega) (by omega) (by omega) (by omega) (by exact hmq) (by omega)) [0, 1] [] 0 rfl rfl gX1_last_X1_machineAt rfl ⟨rfl, by decide +kernel⟩ ⟨by decide, by decide⟩ rfl rfl rfl rfl rfl (by decide) rfl (by decide) (by decide) (fun _ h => absurd h List.not_mem_nil) dX1_last_7 rfl (Nat.le_of_ble_eq_true rfl) ⟨by decide, by decide⟩ (fun r u p_1 => ?_)
  obtain ⟨rfl, rfl⟩ := p_1
  exact g_aret (if 0 ≤ (M - 1) ∧ (M - 1) < M then some (ad (M - 1)) else none) hRet dX1_last_10 rfl ⟨(by rw [if_pos (by omega)]), rfl⟩

set_option maxHeartbeats 4000000 in
set_option maxRecDepth 100000 in
theorem c_X1_isLast (E : Ev) (v : Nat) (ma : Nat) (fo : Nat) (la : Nat) (M : Int) (ti : Int) (so : Int) (ta : Int) (go : Int) (sl : Int) (h : Nat) (sa : Nat) (n : Int) (ah : Value) (c : Int → Int) (hM : 2 ≤ M ∧ M ≤ 6) (hti : 0 ≤ ti ∧ ti ≤ 10000) (hso : 0 ≤ so ∧ so ≤ 100000) (hgo : 0 ≤ go ∧ go ≤ 20000) (hn : 0 ≤ n ∧ n ≤ 5) : MI yX1_isLast wsX1_isLast ({ frames := 0, cells := 0, slots := 0, locals := 0 } : Room) E [] 0 0 [.ref v, .ref h] [(v, oo 1 [.ref ma, .int (iI M), .ref fo, .ref la, .int (iI ti), .int (iI so), .int (iI ta), .int (iI go), .int (iI sl)]), (h, oo 3 (fMa n ah sa c))] (fun r u => r = iI (bI (n = M - 1)) ∧ u = [(v, oo 1 [.ref ma, .int (iI M), .ref fo, .ref la, .int (iI ti), .int (iI so), .int (iI ta), .int (iI go), .int (iI sl)]), (h, oo 3 (fMa n ah sa c))]) := by
  refine MI.of (cc := cX1_isLast) (maxL := 2) (own := RX1) (by decide) rfl rfl rfl (Nat.le_of_ble_eq_true rfl) [(0, .ref v), (1, .ref h)] rfl ?_
  intro X hin2 hRet
  refine g_aload_n 1 dX1_isLast_0 rfl rfl ?_
  refine g_get (v := .int (iI n)) (C := RX3) (T := TX3) (N := 14) 1 0 (fun _ h => List.mem_cons_of_mem _ (List.mem_append_left _ (List.mem_append_right _ h))) (List.mem_of_getElem? (i := 1) rfl) rfl rfl (by decide) rfl rfl dX1_isLast_1 ?_
  refine g_aload_n 0 dX1_isLast_4 rfl rfl ?_
  refine g_get (C := RX1) (T := TX1) (N := 9) 0 1 (fun _ h => List.mem_cons_of_mem _ (List.mem_append_right _ h)) (List.mem_of_getElem? (i := 2) rfl) rfl rfl (by decide) rfl rfl dX1_isLast_5 ?_
  refine g_iconst dX1_isLast_8 ?_
  refine g_isub dX1_isLast_9 ?_
  refine g_icmp_ne (tgt := 17) (by unfold R32; omega) (by unfold R32; omega) dX1_isLast_10 rfl (fun c_1 => ?_) (fun c_1 => ?_)
  · refine g_iconst dX1_isLast_13 ?_
    refine g_goto (tgt := 18) dX1_isLast_14 rfl ?_
    exact g_iret hRet dX1_isLast_18 rfl ⟨(bI_t (by omega)), rfl⟩
  · refine g_iconst dX1_isLast_17 ?_
    exact g_iret hRet dX1_isLast_18 rfl ⟨(bI_f (by omega)), rfl⟩

set_option maxHeartbeats 4000000 in
set_option maxRecDepth 100000 in
theorem c_take_s0 (E : Ev) (v : Nat) (ma : Nat) (fo : Nat) (la : Nat) (M : Int) (ti : Int) (so : Int) (ta : Int) (go : Int) (sl : Int) (h : Nat) (sa : Nat) (n : Int) (c : Int → Int) (hM : 2 ≤ M ∧ M ≤ 6) (hti : 0 ≤ ti ∧ ti ≤ 10000) (hso : 0 ≤ so ∧ so ≤ 100000) (hgo : 0 ≤ go ∧ go ≤ 20000) (hc : mOk c) (ha : so = 0) : MI yX1_takeFor wsX1_takeFor ({ frames := 0, cells := 0, slots := 0, locals := 0 } : Room) E [] 0 0 [.ref v, .ref h] [(v, oo 1 [.ref ma, .int (iI M), .ref fo, .ref la, .int (iI ti), .int (iI so), .int (iI ta), .int (iI go), .int (iI sl)]), (h, oo 3 (fMa n .null sa c))] (fun r u => r = iI 0 ∧ u = [(v, oo 1 [.ref ma, .int (iI M), .ref fo, .ref la, .int (iI ti), .int (iI so), .int (iI ta), .int (iI go), .int (iI sl)]), (h, oo 3 (fMa n .null sa c))]) := by
  refine MI.of (cc := cX1_takeFor) (maxL := 2) (own := RX1) (by decide) rfl rfl rfl (Nat.le_of_ble_eq_true rfl) [(0, .ref v), (1, .ref h)] rfl ?_
  intro X hin2 hRet
  refine g_aload_n 1 dX1_takeFor_0 rfl rfl ?_
  refine g_get (v := .null) (C := RX3) (T := TX3) (N := 14) 1 1 (fun _ h => List.mem_cons_of_mem _ (List.mem_append_left _ (List.mem_append_right _ h))) (List.mem_of_getElem? (i := 1) rfl) rfl rfl (by decide) rfl rfl dX1_takeFor_1 ?_
  refine g_ifnonnullN dX1_takeFor_4 ?_
  refine g_aload_n 0 dX1_takeFor_7 rfl rfl ?_
  refine g_get (C := RX1) (T := TX1) (N := 9) 0 5 (fun _ h => List.mem_cons_of_mem _ (List.mem_append_right _ h)) (List.mem_of_getElem? (i := 2) rfl) rfl rfl (by decide) rfl rfl dX1_takeFor_8 ?_
  refine g_if_ne (tgt := 16) (by (try unfold mOk at *); (try unfold sOk at *); unfold R32; omega) dX1_takeFor_11 rfl (fun c_1 => ?_) (fun c_1 => ?_)
  · refine g_iconst dX1_takeFor_14 ?_
    exact g_iret hRet dX1_takeFor_15 rfl ⟨rfl, rfl⟩
  · exact absurd ha (by assumption)

set_option maxHeartbeats 4000000 in
set_option maxRecDepth 100000 in
theorem c_take_s1 (E : Ev) (v : Nat) (ma : Nat) (fo : Nat) (la : Nat) (M : Int) (ti : Int) (so : Int) (ta : Int) (go : Int) (sl : Int) (h : Nat) (sa : Nat) (n : Int) (c : Int → Int) (hM : 2 ≤ M ∧ M ≤ 6) (hti : 0 ≤ ti ∧ ti ≤ 10000) (hso : 0 ≤ so ∧ so ≤ 100000) (hgo : 0 ≤ go ∧ go ≤ 20000) (hc : mOk c) (ha : ¬ so = 0) : MI yX1_takeFor wsX1_takeFor ({ frames := 0, cells := 0, slots := 0, locals := 0 } : Room) E [] 0 0 [.ref v, .ref h] [(v, oo 1 [.ref ma, .int (iI M), .ref fo, .ref la, .int (iI ti), .int (iI so), .int (iI ta), .int (iI go), .int (iI sl)]), (h, oo 3 (fMa n .null sa c))] (fun r u => r = iI 1 ∧ u = [(v, oo 1 [.ref ma, .int (iI M), .ref fo, .ref la, .int (iI ti), .int (iI (so - 1)), .int (iI (ta + 1)), .int (iI go), .int (iI sl)]), (h, oo 3 (fMa n .null sa (up c 1 1)))]) := by
  refine MI.of (cc := cX1_takeFor) (maxL := 2) (own := RX1) (by decide) rfl rfl rfl (Nat.le_of_ble_eq_true rfl) [(0, .ref v), (1, .ref h)] rfl ?_
  intro X hin2 hRet
  refine g_aload_n 1 dX1_takeFor_0 rfl rfl ?_
  refine g_get (v := .null) (C := RX3) (T := TX3) (N := 14) 1 1 (fun _ h => List.mem_cons_of_mem _ (List.mem_append_left _ (List.mem_append_right _ h))) (List.mem_of_getElem? (i := 1) rfl) rfl rfl (by decide) rfl rfl dX1_takeFor_1 ?_
  refine g_ifnonnullN dX1_takeFor_4 ?_
  refine g_aload_n 0 dX1_takeFor_7 rfl rfl ?_
  refine g_get (C := RX1) (T := TX1) (N := 9) 0 5 (fun _ h => List.mem_cons_of_mem _ (List.mem_append_right _ h)) (List.mem_of_getElem? (i := 2) rfl) rfl rfl (by decide) rfl rfl dX1_takeFor_8 ?_
  refine g_if_ne (tgt := 16) (by (try unfold mOk at *); (try unfold sOk at *); unfold R32; omega) dX1_takeFor_11 rfl (fun c_1 => ?_) (fun c_1 => ?_)
  · exact absurd (by assumption) ha
  · refine g_aload_n 0 dX1_takeFor_16 rfl rfl ?_
    refine g_dup dX1_takeFor_17 rfl ?_
    refine g_get (C := RX1) (T := TX1) (N := 9) 0 5 (fun _ h => List.mem_cons_of_mem _ (List.mem_append_right _ h)) (List.mem_of_getElem? (i := 2) rfl) rfl rfl (by decide) rfl rfl dX1_takeFor_18 ?_
    refine g_iconst dX1_takeFor_21 ?_
    refine g_isub dX1_takeFor_22 ?_
    refine g_put (C := RX1) (T := TX1) (N := 9) (ws1 := [(v, oo 1 [.ref ma, .int (iI M), .ref fo, .ref la, .int (iI ti), .int (iI (so - 1)), .int (iI ta), .int (iI go), .int (iI sl)]), (h, oo 3 (fMa n .null sa c))]) 0 5 (fun _ h => List.mem_cons_of_mem _ (List.mem_append_right _ h)) tyX1 tyX1_ok nmX1 (List.mem_of_getElem? (i := 2) rfl) rfl rfl (by decide) rfl (tyX1_ok 5 (by decide)) rfl rfl (by first | decide | exact Nat.le_of_ble_eq_true rfl) dX1_takeFor_23 rfl rfl ?_
    refine g_aload_n 0 dX1_takeFor_26 rfl rfl ?_
    refine g_dup dX1_takeFor_27 rfl ?_
    refine g_get (C := RX1) (T := TX1) (N := 9) 0 6 (fun _ h => List.mem_cons_of_mem _ (List.mem_append_right _ h)) (List.mem_of_getElem? (i := 3) rfl) rfl rfl (by decide) rfl rfl dX1_takeFor_28 ?_
    refine g_iconst dX1_takeFor_31 ?_
    refine g_iadd dX1_takeFor_32 ?_
    refine g_put (C := RX1) (T := TX1) (N := 9) (ws1 := [(v, oo 1 [.ref ma, .int (iI M), .ref fo, .ref la, .int (iI ti), .int (iI (so - 1)), .int (iI (ta + 1)), .int (iI go), .int (iI sl)]), (h, oo 3 (fMa n .null sa c))]) 0 6 (fun _ h => List.mem_cons_of_mem _ (List.mem_append_right _ h)) tyX1 tyX1_ok nmX1 (List.mem_of_getElem? (i := 3) rfl) rfl rfl (by decide) rfl (tyX1_ok 6 (by decide)) rfl rfl (by first | decide | exact Nat.le_of_ble_eq_true rfl) dX1_takeFor_33 rfl rfl ?_
    refine g_goto (tgt := 64) dX1_takeFor_36 rfl ?_
    refine g_aload_n 1 dX1_takeFor_64 rfl rfl ?_
    refine g_iconst dX1_takeFor_65 ?_
    refine g_put (C := RX3) (T := TX3) (N := 14) (ws1 := [(v, oo 1 [.ref ma, .int (iI M), .ref fo, .ref la, .int (iI ti), .int (iI (so - 1)), .int (iI (ta + 1)), .int (iI go), .int (iI sl)]), (h, oo 3 (fMa n .null sa (up c 1 1)))]) 1 4 (fun _ h => List.mem_cons_of_mem _ (List.mem_append_left _ (List.mem_append_right _ h))) tyX3 tyX3_ok nmX3 (List.mem_of_getElem? (i := 5) rfl) rfl rfl (by decide) rfl (tyX3_ok 4 (by decide)) rfl rfl (by first | decide | exact Nat.le_of_ble_eq_true rfl) dX1_takeFor_66 rfl rfl ?_
    refine g_iconst dX1_takeFor_69 ?_
    exact g_iret hRet dX1_takeFor_70 rfl ⟨rfl, rfl⟩

set_option maxHeartbeats 4000000 in
set_option maxRecDepth 100000 in
theorem c_take_a0 (E : Ev) (v : Nat) (ma : Nat) (fo : Nat) (la : Nat) (M : Int) (ti : Int) (so : Int) (ta : Int) (go : Int) (sl : Int) (h : Nat) (sa : Nat) (n : Int) (c : Int → Int) (h2 : Nat) (sa2 : Nat) (n2 : Int) (ah : Value) (c2 : Int → Int) (hM : 2 ≤ M ∧ M ≤ 6) (hti : 0 ≤ ti ∧ ti ≤ 10000) (hso : 0 ≤ so ∧ so ≤ 100000) (hgo : 0 ≤ go ∧ go ≤ 20000) (hc : mOk c) (hc2 : mOk c2) (ha : c2 0 = 0) : MI yX1_takeFor wsX1_takeFor ({ frames := 0, cells := 0, slots := 0, locals := 0 } : Room) E [] 0 0 [.ref v, .ref h] [(v, oo 1 [.ref ma, .int (iI M), .ref fo, .ref la, .int (iI ti), .int (iI so), .int (iI ta), .int (iI go), .int (iI sl)]), (h, oo 3 (fMa n (.ref h2) sa c)), (h2, oo 3 (fMa n2 ah sa2 c2))] (fun r u => r = iI 0 ∧ u = [(v, oo 1 [.ref ma, .int (iI M), .ref fo, .ref la, .int (iI ti), .int (iI so), .int (iI ta), .int (iI go), .int (iI sl)]), (h, oo 3 (fMa n (.ref h2) sa c)), (h2, oo 3 (fMa n2 ah sa2 c2))]) := by
  refine MI.of (cc := cX1_takeFor) (maxL := 2) (own := RX1) (by decide) rfl rfl rfl (Nat.le_of_ble_eq_true rfl) [(0, .ref v), (1, .ref h)] rfl ?_
  intro X hin2 hRet
  refine g_aload_n 1 dX1_takeFor_0 rfl rfl ?_
  refine g_get (v := .ref h2) (C := RX3) (T := TX3) (N := 14) 1 1 (fun _ h => List.mem_cons_of_mem _ (List.mem_append_left _ (List.mem_append_right _ h))) (List.mem_of_getElem? (i := 1) rfl) rfl rfl (by decide) rfl rfl dX1_takeFor_1 ?_
  refine g_ifnonnull (tgt := 39) dX1_takeFor_4 rfl ?_
  refine g_aload_n 1 dX1_takeFor_39 rfl rfl ?_
  refine g_get (v := .ref h2) (C := RX3) (T := TX3) (N := 14) 1 1 (fun _ h => List.mem_cons_of_mem _ (List.mem_append_left _ (List.mem_append_right _ h))) (List.mem_of_getElem? (i := 1) rfl) rfl rfl (by decide) rfl rfl dX1_takeFor_40 ?_
  refine g_get (v := .int (iI (c2 0))) (C := RX3) (T := TX3) (N := 14) 2 3 (fun _ h => List.mem_cons_of_mem _ (List.mem_append_left _ (List.mem_append_right _ h))) (List.mem_of_getElem? (i := 4) rfl) rfl rfl (by decide) rfl rfl dX1_takeFor_43 ?_
  refine g_if_ne (tgt := 51) (by (try unfold mOk at *); (try unfold sOk at *); unfold R32; omega) dX1_takeFor_46 rfl (fun c_1 => ?_) (fun c_1 => ?_)
  · refine g_iconst dX1_takeFor_49 ?_
    exact g_iret hRet dX1_takeFor_50 rfl ⟨rfl, rfl⟩
  · exact absurd ha (by assumption)

set_option maxHeartbeats 4000000 in
set_option maxRecDepth 100000 in
theorem c_take_a1 (E : Ev) (v : Nat) (ma : Nat) (fo : Nat) (la : Nat) (M : Int) (ti : Int) (so : Int) (ta : Int) (go : Int) (sl : Int) (h : Nat) (sa : Nat) (n : Int) (c : Int → Int) (h2 : Nat) (sa2 : Nat) (n2 : Int) (ah : Value) (c2 : Int → Int) (hM : 2 ≤ M ∧ M ≤ 6) (hti : 0 ≤ ti ∧ ti ≤ 10000) (hso : 0 ≤ so ∧ so ≤ 100000) (hgo : 0 ≤ go ∧ go ≤ 20000) (hc : mOk c) (hc2 : mOk c2) (ha : ¬ c2 0 = 0) : MI yX1_takeFor wsX1_takeFor ({ frames := 0, cells := 0, slots := 0, locals := 0 } : Room) E [] 0 0 [.ref v, .ref h] [(v, oo 1 [.ref ma, .int (iI M), .ref fo, .ref la, .int (iI ti), .int (iI so), .int (iI ta), .int (iI go), .int (iI sl)]), (h, oo 3 (fMa n (.ref h2) sa c)), (h2, oo 3 (fMa n2 ah sa2 c2))] (fun r u => r = iI 1 ∧ u = [(v, oo 1 [.ref ma, .int (iI M), .ref fo, .ref la, .int (iI ti), .int (iI so), .int (iI ta), .int (iI go), .int (iI sl)]), (h, oo 3 (fMa n (.ref h2) sa (up c 1 1))), (h2, oo 3 (fMa n2 ah sa2 (up c2 0 (c2 0 - 1))))]) := by
  refine MI.of (cc := cX1_takeFor) (maxL := 2) (own := RX1) (by decide) rfl rfl rfl (Nat.le_of_ble_eq_true rfl) [(0, .ref v), (1, .ref h)] rfl ?_
  intro X hin2 hRet
  refine g_aload_n 1 dX1_takeFor_0 rfl rfl ?_
  refine g_get (v := .ref h2) (C := RX3) (T := TX3) (N := 14) 1 1 (fun _ h => List.mem_cons_of_mem _ (List.mem_append_left _ (List.mem_append_right _ h))) (List.mem_of_getElem? (i := 1) rfl) rfl rfl (by decide) rfl rfl dX1_takeFor_1 ?_
  refine g_ifnonnull (tgt := 39) dX1_takeFor_4 rfl ?_
  refine g_aload_n 1 dX1_takeFor_39 rfl rfl ?_
  refine g_get (v := .ref h2) (C := RX3) (T := TX3) (N := 14) 1 1 (fun _ h => List.mem_cons_of_mem _ (List.mem_append_left _ (List.mem_append_right _ h))) (List.mem_of_getElem? (i := 1) rfl) rfl rfl (by decide) rfl rfl dX1_takeFor_40 ?_
  refine g_get (v := .int (iI (c2 0))) (C := RX3) (T := TX3) (N := 14) 2 3 (fun _ h => List.mem_cons_of_mem _ (List.mem_append_left _ (List.mem_append_right _ h))) (List.mem_of_getElem? (i := 4) rfl) rfl rfl (by decide) rfl rfl dX1_takeFor_43 ?_
  refine g_if_ne (tgt := 51) (by (try unfold mOk at *); (try unfold sOk at *); unfold R32; omega) dX1_takeFor_46 rfl (fun c_1 => ?_) (fun c_1 => ?_)
  · exact absurd (by assumption) ha
  · refine g_aload_n 1 dX1_takeFor_51 rfl rfl ?_
    refine g_get (v := .ref h2) (C := RX3) (T := TX3) (N := 14) 1 1 (fun _ h => List.mem_cons_of_mem _ (List.mem_append_left _ (List.mem_append_right _ h))) (List.mem_of_getElem? (i := 1) rfl) rfl rfl (by decide) rfl rfl dX1_takeFor_52 ?_
    refine g_dup dX1_takeFor_55 rfl ?_
    refine g_get (v := .int (iI (c2 0))) (C := RX3) (T := TX3) (N := 14) 2 3 (fun _ h => List.mem_cons_of_mem _ (List.mem_append_left _ (List.mem_append_right _ h))) (List.mem_of_getElem? (i := 4) rfl) rfl rfl (by decide) rfl rfl dX1_takeFor_56 ?_
    refine g_iconst dX1_takeFor_59 ?_
    refine g_isub dX1_takeFor_60 ?_
    refine g_put (C := RX3) (T := TX3) (N := 14) (ws1 := [(v, oo 1 [.ref ma, .int (iI M), .ref fo, .ref la, .int (iI ti), .int (iI so), .int (iI ta), .int (iI go), .int (iI sl)]), (h, oo 3 (fMa n (.ref h2) sa c)), (h2, oo 3 (fMa n2 ah sa2 (up c2 0 ((c2 0) - 1))))]) 2 3 (fun _ h => List.mem_cons_of_mem _ (List.mem_append_left _ (List.mem_append_right _ h))) tyX3 tyX3_ok nmX3 (List.mem_of_getElem? (i := 4) rfl) rfl rfl (by decide) rfl (tyX3_ok 3 (by decide)) rfl rfl (by first | decide | exact Nat.le_of_ble_eq_true rfl) dX1_takeFor_61 rfl rfl ?_
    refine g_aload_n 1 dX1_takeFor_64 rfl rfl ?_
    refine g_iconst dX1_takeFor_65 ?_
    refine g_put (C := RX3) (T := TX3) (N := 14) (ws1 := [(v, oo 1 [.ref ma, .int (iI M), .ref fo, .ref la, .int (iI ti), .int (iI so), .int (iI ta), .int (iI go), .int (iI sl)]), (h, oo 3 (fMa n (.ref h2) sa (up c 1 1))), (h2, oo 3 (fMa n2 ah sa2 (up c2 0 ((c2 0) - 1))))]) 1 4 (fun _ h => List.mem_cons_of_mem _ (List.mem_append_left _ (List.mem_append_right _ h))) tyX3 tyX3_ok nmX3 (List.mem_of_getElem? (i := 5) rfl) rfl rfl (by decide) rfl (tyX3_ok 4 (by decide)) rfl rfl (by first | decide | exact Nat.le_of_ble_eq_true rfl) dX1_takeFor_66 rfl rfl ?_
    refine g_iconst dX1_takeFor_69 ?_
    exact g_iret hRet dX1_takeFor_70 rfl ⟨rfl, rfl⟩

end LINE
