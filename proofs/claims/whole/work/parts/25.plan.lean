section PLAN1
theorem tb_b {f : Int → Int} (hf : ∀ k, 0 ≤ f k ∧ f k ≤ 144) (w h : Int) : 0 ≤ tb f w h ∧ tb f w h ≤ 144 := hf _
theorem cU_b {f : Int → Int} (hf : ∀ k, 0 ≤ f k ∧ f k ≤ 144) (w h k : Int) : 0 ≤ cU (tb f) w h k ∧ cU (tb f) w h k ≤ 288 := by
  have h1 := tb_b hf k h
  have h2 := tb_b hf (w - k) h
  unfold cU; omega
theorem cL_b {f : Int → Int} (hf : ∀ k, 0 ≤ f k ∧ f k ≤ 144) (w h k : Int) : 0 ≤ cL (tb f) w h k ∧ cL (tb f) w h k ≤ 288 := by
  have h1 := tb_b hf w k
  have h2 := tb_b hf w (h - k)
  unfold cL; omega
theorem cP_b {f : Int → Int} (hf : ∀ k, 0 ≤ f k ∧ f k ≤ 144) (w h x1 x2 y1 y2 : Int) : 0 ≤ cP (tb f) w h x1 x2 y1 y2 ∧ cP (tb f) w h x1 x2 y1 y2 ≤ 720 := by
  have h1 := tb_b hf x1 y2
  have h2 := tb_b hf (w - x1) y1
  have h3 := tb_b hf (w - x2) (h - y1)
  have h4 := tb_b hf x2 (h - y2)
  have h5 := tb_b hf (x2 - x1) (y2 - y1)
  unfold cP; omega
theorem mul_ge {w h p q : Int} (h1 : p ≤ w) (h2 : q ≤ h) (h3 : 0 ≤ p) (h4 : 0 ≤ q) : p * q ≤ w * h := Int.mul_le_mul h1 h2 h4 (by omega)
theorem prod3 {u a b : Int} (hu : 0 ≤ u ∧ u ≤ 721) (ha : 0 ≤ a ∧ a ≤ 12) (hb : 0 ≤ b ∧ b ≤ 12) : 0 ≤ u * a * b ∧ u * a * b ≤ 103824 := by
  have h1 := mul_ge hu.2 ha.2 hu.1 ha.1
  have h2 := Int.mul_nonneg hu.1 ha.1
  have h3 := mul_ge (show u * a ≤ 8652 by omega) hb.2 h2 hb.1
  have h4 := Int.mul_nonneg h2 hb.1
  omega
theorem bI_if {p : Prop} [Decidable p] (x y : Int) : (if bI p = 0 then y else x) = if p then x else y := by
  unfold bI
  by_cases h : p
  · rw [if_pos h, if_pos h, if_neg (by omega)]
  · rw [if_neg h, if_neg h, if_pos rfl]

set_option maxHeartbeats 4000000 in
set_option maxRecDepth 100000 in
theorem c_X4_fits (E : Ev) (al : Int) (uh : Int) (w : Int) (h : Int) (h_al : -2147483648 ≤ al ∧ al ≤ 2147483647) (h_uh : -2147483648 ≤ uh ∧ uh ≤ 2147483647) (h_w : -2147483648 ≤ w ∧ w ≤ 2147483647) (h_h : -2147483648 ≤ h ∧ h ≤ 2147483647) : MI yX4_fits wsX4_fits ({ frames := 0, cells := 0, slots := 0, locals := 0 } : Room) E [] 0 0 [.int (iI al), .int (iI uh), .int (iI w), .int (iI h)] [] (fun r u => (r = iI (bI (al ≤ w ∧ uh ≤ h))) ∧ u = []) := by
  refine MI.of (cc := cX4_fits) (maxL := 4) (own := RX4) (by decide) rfl rfl rfl (Nat.le_of_ble_eq_true rfl) [(0, .int (iI al)), (1, .int (iI uh)), (2, .int (iI w)), (3, .int (iI h))] rfl ?_
  intro X hin2 hRet
  refine g_iload_n 0 dX4_fits_0 rfl rfl ?_
  refine g_iload_n 2 dX4_fits_1 rfl rfl ?_
  refine g_icmp_gt (tgt := 14) (by unfold R32; omega) (by unfold R32; omega) dX4_fits_2 rfl (fun c_1 => ?_) (fun c_1 => ?_)
  · refine g_iconst dX4_fits_14 ?_
    exact g_iret hRet dX4_fits_15 rfl ⟨(bI_f (by omega)), rfl⟩
  · refine g_iload_n 1 dX4_fits_5 rfl rfl ?_
    refine g_iload_n 3 dX4_fits_6 rfl rfl ?_
    refine g_icmp_gt (tgt := 14) (by unfold R32; omega) (by unfold R32; omega) dX4_fits_7 rfl (fun c_2 => ?_) (fun c_2 => ?_)
    · refine g_iconst dX4_fits_14 ?_
      exact g_iret hRet dX4_fits_15 rfl ⟨(bI_f (by omega)), rfl⟩
    · refine g_iconst dX4_fits_10 ?_
      refine g_goto (tgt := 15) dX4_fits_11 rfl ?_
      exact g_iret hRet dX4_fits_15 rfl ⟨(bI_t (by omega)), rfl⟩

set_option maxHeartbeats 4000000 in
set_option maxRecDepth 100000 in
theorem c_X4_mostOf (E : Ev) (p0 : Nat) (w1 : Nat) (w2 : Nat) (w3 : Nat) (w4 : Nat) (mk : Int) (px : Int) (py : Int) (pa : Int) (pb : Int) (nw : Int) (np : Int) (nq : Int) (mo : Int → Int) (w : Int) (h : Int) (hw : 0 ≤ w ∧ w ≤ 12) (hh : 0 ≤ h ∧ h ≤ 12) : MI yX4_mostOf wsX4_mostOf ({ frames := 0, cells := 0, slots := 0, locals := 0 } : Room) E [] 0 0 [.ref p0, .int (iI w), .int (iI h)] [(p0, oo 4 [.int (iI mk), .int (iI px), .int (iI py), .int (iI pa), .int (iI pb), .int (iI nw), .ref w1, .ref w2, .int (iI np), .ref w3, .int (iI nq), .ref w4]), (w1, aI E 169 mo)] (fun r u => r = iI (tb mo w h) ∧ u = [(p0, oo 4 [.int (iI mk), .int (iI px), .int (iI py), .int (iI pa), .int (iI pb), .int (iI nw), .ref w1, .ref w2, .int (iI np), .ref w3, .int (iI nq), .ref w4]), (w1, aI E 169 mo)]) := by
  refine MI.of (cc := cX4_mostOf) (maxL := 3) (own := RX4) (by decide) rfl rfl rfl (Nat.le_of_ble_eq_true rfl) [(0, .ref p0), (1, .int (iI w)), (2, .int (iI h))] rfl ?_
  intro X hin2 hRet
  refine g_iload_n 1 dX4_mostOf_0 rfl rfl ?_
  refine g_if_lt (tgt := 34) (by unfold R32; omega) dX4_mostOf_1 rfl (fun c_1 => ?_) (fun c_1 => ?_)
  · refine g_iconst dX4_mostOf_34 ?_
    exact g_iret hRet dX4_mostOf_35 rfl ⟨(congrArg iI (by first | (exfalso; omega) | exact congrArg mo (by omega))), rfl⟩
  · refine g_iload_n 1 dX4_mostOf_4 rfl rfl ?_
    refine g_bipush dX4_mostOf_5 rfl ?_
    refine g_icmp_gt (tgt := 34) (by unfold R32; omega) (by unfold R32; omega) dX4_mostOf_7 rfl (fun c_2 => ?_) (fun c_2 => ?_)
    · refine g_iconst dX4_mostOf_34 ?_
      exact g_iret hRet dX4_mostOf_35 rfl ⟨(congrArg iI (by first | (exfalso; omega) | exact congrArg mo (by omega))), rfl⟩
    · refine g_iload_n 2 dX4_mostOf_10 rfl rfl ?_
      refine g_if_lt (tgt := 34) (by unfold R32; omega) dX4_mostOf_11 rfl (fun c_3 => ?_) (fun c_3 => ?_)
      · refine g_iconst dX4_mostOf_34 ?_
        exact g_iret hRet dX4_mostOf_35 rfl ⟨(congrArg iI (by first | (exfalso; omega) | exact congrArg mo (by omega))), rfl⟩
      · refine g_iload_n 2 dX4_mostOf_14 rfl rfl ?_
        refine g_bipush dX4_mostOf_15 rfl ?_
        refine g_icmp_gt (tgt := 34) (by unfold R32; omega) (by unfold R32; omega) dX4_mostOf_17 rfl (fun c_4 => ?_) (fun c_4 => ?_)
        · refine g_iconst dX4_mostOf_34 ?_
          exact g_iret hRet dX4_mostOf_35 rfl ⟨(congrArg iI (by first | (exfalso; omega) | exact congrArg mo (by omega))), rfl⟩
        · refine g_aload_n 0 dX4_mostOf_20 rfl rfl ?_
          refine g_get (C := RX4) (T := TX4) (N := 12) 0 6 (fun _ h => List.mem_cons_of_mem _ (List.mem_append_right _ h)) (List.mem_of_getElem? (i := 1) rfl) rfl rfl (by decide) rfl rfl dX4_mostOf_21 ?_
          refine g_iload_n 1 dX4_mostOf_24 rfl rfl ?_
          refine g_bipush dX4_mostOf_25 rfl ?_
          refine g_imul dX4_mostOf_27 ?_
          refine g_iload_n 2 dX4_mostOf_28 rfl rfl ?_
          refine g_iadd dX4_mostOf_29 ?_
          refine g_iald 1 dX4_mostOf_30 rfl (by decide) (by omega) (by omega) ?_
          refine g_goto (tgt := 35) dX4_mostOf_31 rfl ?_
          exact g_iret hRet dX4_mostOf_35 rfl ⟨(congrArg iI (by first | (exfalso; omega) | exact congrArg mo (by omega))), rfl⟩

set_option maxHeartbeats 4000000 in
set_option maxRecDepth 100000 in
theorem c_X4_byUprightCut (E : Ev) (p0 : Nat) (w1 : Nat) (w2 : Nat) (w3 : Nat) (w4 : Nat) (mk : Int) (px : Int) (py : Int) (pa : Int) (pb : Int) (nw : Int) (np : Int) (nq : Int) (mo : Int → Int) (w : Int) (h : Int) (k : Int) (hw : 1 ≤ w ∧ w ≤ 12) (hh : 1 ≤ h ∧ h ≤ 12) (hk : 1 ≤ k ∧ k < w) : MI yX4_byUprightCut wsX4_byUprightCut ({ frames := 1, cells := 0, slots := 0, locals := 22 } : Room) E [] 0 0 [.ref p0, .int (iI w), .int (iI h), .int (iI k)] [(p0, oo 4 [.int (iI mk), .int (iI px), .int (iI py), .int (iI pa), .int (iI pb), .int (iI nw), .ref w1, .ref w2, .int (iI np), .ref w3, .int (iI nq), .ref w4]), (w1, aI E 169 mo)] (fun r u => r = iI (cU (tb mo) w h k) ∧ u = [(p0, oo 4 [.int (iI mk), .int (iI px), .int (iI py), .int (iI pa), .int (iI pb), .int (iI nw), .ref w1, .ref w2, .int (iI np), .ref w3, .int (iI nq), .ref w4]), (w1, aI E 169 mo)]) := by
  refine MI.of (cc := cX4_byUprightCut) (maxL := 4) (own := RX4) (by decide) rfl rfl rfl (Nat.le_of_ble_eq_true rfl) [(0, .ref p0), (1, .int (iI w)), (2, .int (iI h)), (3, .int (iI k))] rfl ?_
  intro X hin2 hRet
  refine g_aload_n 0 dX4_byUprightCut_0 rfl rfl ?_
  refine g_iload_n 3 dX4_byUprightCut_1 rfl rfl ?_
  refine g_iload_n 2 dX4_byUprightCut_2 rfl rfl ?_
  refine g_callV_i (n := 2) (As := [.int (iI k), .int (iI h)]) (wr := []) (C := RX4) [] (c_X4_mostOf E p0 w1 w2 w3 w4 mk px py pa pb nw np nq mo k h (by omega) (by omega)) [0, 1] [] 0 rfl rfl gX4_byUprightCut_X4_mostOf rfl ⟨rfl, by decide +kernel⟩ ⟨by decide, by decide⟩ rfl rfl rfl rfl rfl (by decide) rfl (by decide) (by decide) (fun _ h => absurd h List.not_mem_nil) dX4_byUprightCut_3 rfl (Nat.le_of_ble_eq_true rfl) ⟨by decide, by decide⟩ (fun r u p_1 => ?_)
  obtain ⟨rfl, rfl⟩ := p_1
  refine g_aload_n 0 dX4_byUprightCut_6 rfl rfl ?_
  refine g_iload_n 1 dX4_byUprightCut_7 rfl rfl ?_
  refine g_iload_n 3 dX4_byUprightCut_8 rfl rfl ?_
  refine g_isub dX4_byUprightCut_9 ?_
  refine g_iload_n 2 dX4_byUprightCut_10 rfl rfl ?_
  refine g_callV_i (n := 2) (As := [.int (iI (w - k)), .int (iI h)]) (wr := []) (C := RX4) [.int (iI (tb mo k h))] (c_X4_mostOf E p0 w1 w2 w3 w4 mk px py pa pb nw np nq mo (w - k) h (by omega) (by omega)) [0, 1] [] 0 rfl rfl gX4_byUprightCut_X4_mostOf rfl ⟨rfl, by decide +kernel⟩ ⟨by decide, by decide⟩ rfl rfl rfl rfl rfl (by decide) rfl (by decide) (by decide) (fun _ h => absurd h List.not_mem_nil) dX4_byUprightCut_11 rfl (Nat.le_of_ble_eq_true rfl) ⟨by decide, by decide⟩ (fun r u p_2 => ?_)
  obtain ⟨rfl, rfl⟩ := p_2
  refine g_iadd dX4_byUprightCut_14 ?_
  exact g_iret hRet dX4_byUprightCut_15 rfl ⟨(congrArg iI (by rfl)), rfl⟩

set_option maxHeartbeats 4000000 in
set_option maxRecDepth 100000 in
theorem c_X4_byLevelCut (E : Ev) (p0 : Nat) (w1 : Nat) (w2 : Nat) (w3 : Nat) (w4 : Nat) (mk : Int) (px : Int) (py : Int) (pa : Int) (pb : Int) (nw : Int) (np : Int) (nq : Int) (mo : Int → Int) (w : Int) (h : Int) (k : Int) (hw : 1 ≤ w ∧ w ≤ 12) (hh : 1 ≤ h ∧ h ≤ 12) (hk : 1 ≤ k ∧ k < h) : MI yX4_byLevelCut wsX4_byLevelCut ({ frames := 1, cells := 0, slots := 0, locals := 22 } : Room) E [] 0 0 [.ref p0, .int (iI w), .int (iI h), .int (iI k)] [(p0, oo 4 [.int (iI mk), .int (iI px), .int (iI py), .int (iI pa), .int (iI pb), .int (iI nw), .ref w1, .ref w2, .int (iI np), .ref w3, .int (iI nq), .ref w4]), (w1, aI E 169 mo)] (fun r u => r = iI (cL (tb mo) w h k) ∧ u = [(p0, oo 4 [.int (iI mk), .int (iI px), .int (iI py), .int (iI pa), .int (iI pb), .int (iI nw), .ref w1, .ref w2, .int (iI np), .ref w3, .int (iI nq), .ref w4]), (w1, aI E 169 mo)]) := by
  refine MI.of (cc := cX4_byLevelCut) (maxL := 4) (own := RX4) (by decide) rfl rfl rfl (Nat.le_of_ble_eq_true rfl) [(0, .ref p0), (1, .int (iI w)), (2, .int (iI h)), (3, .int (iI k))] rfl ?_
  intro X hin2 hRet
  refine g_aload_n 0 dX4_byLevelCut_0 rfl rfl ?_
  refine g_iload_n 1 dX4_byLevelCut_1 rfl rfl ?_
  refine g_iload_n 3 dX4_byLevelCut_2 rfl rfl ?_
  refine g_callV_i (n := 2) (As := [.int (iI w), .int (iI k)]) (wr := []) (C := RX4) [] (c_X4_mostOf E p0 w1 w2 w3 w4 mk px py pa pb nw np nq mo w k (by omega) (by omega)) [0, 1] [] 0 rfl rfl gX4_byLevelCut_X4_mostOf rfl ⟨rfl, by decide +kernel⟩ ⟨by decide, by decide⟩ rfl rfl rfl rfl rfl (by decide) rfl (by decide) (by decide) (fun _ h => absurd h List.not_mem_nil) dX4_byLevelCut_3 rfl (Nat.le_of_ble_eq_true rfl) ⟨by decide, by decide⟩ (fun r u p_1 => ?_)
  obtain ⟨rfl, rfl⟩ := p_1
  refine g_aload_n 0 dX4_byLevelCut_6 rfl rfl ?_
  refine g_iload_n 1 dX4_byLevelCut_7 rfl rfl ?_
  refine g_iload_n 2 dX4_byLevelCut_8 rfl rfl ?_
  refine g_iload_n 3 dX4_byLevelCut_9 rfl rfl ?_
  refine g_isub dX4_byLevelCut_10 ?_
  refine g_callV_i (n := 2) (As := [.int (iI w), .int (iI (h - k))]) (wr := []) (C := RX4) [.int (iI (tb mo w k))] (c_X4_mostOf E p0 w1 w2 w3 w4 mk px py pa pb nw np nq mo w (h - k) (by omega) (by omega)) [0, 1] [] 0 rfl rfl gX4_byLevelCut_X4_mostOf rfl ⟨rfl, by decide +kernel⟩ ⟨by decide, by decide⟩ rfl rfl rfl rfl rfl (by decide) rfl (by decide) (by decide) (fun _ h => absurd h List.not_mem_nil) dX4_byLevelCut_11 rfl (Nat.le_of_ble_eq_true rfl) ⟨by decide, by decide⟩ (fun r u p_2 => ?_)
  obtain ⟨rfl, rfl⟩ := p_2
  refine g_iadd dX4_byLevelCut_14 ?_
  exact g_iret hRet dX4_byLevelCut_15 rfl ⟨(congrArg iI (by rfl)), rfl⟩

set_option maxHeartbeats 4000000 in
set_option maxRecDepth 100000 in
theorem c_X4_byPinwheel (E : Ev) (p0 : Nat) (w1 : Nat) (w2 : Nat) (w3 : Nat) (w4 : Nat) (mk : Int) (px : Int) (py : Int) (pa : Int) (pb : Int) (nw : Int) (np : Int) (nq : Int) (mo : Int → Int) (w : Int) (h : Int) (x1 : Int) (x2 : Int) (y1 : Int) (y2 : Int) (hw : 1 ≤ w ∧ w ≤ 12) (hh : 1 ≤ h ∧ h ≤ 12) (hv : vN 1 w h x1 x2 y1 y2) : MI yX4_byPinwheel wsX4_byPinwheel ({ frames := 1, cells := 0, slots := 0, locals := 22 } : Room) E [] 0 0 [.ref p0, .int (iI w), .int (iI h), .int (iI x1), .int (iI x2), .int (iI y1), .int (iI y2)] [(p0, oo 4 [.int (iI mk), .int (iI px), .int (iI py), .int (iI pa), .int (iI pb), .int (iI nw), .ref w1, .ref w2, .int (iI np), .ref w3, .int (iI nq), .ref w4]), (w1, aI E 169 mo)] (fun r u => r = iI (cP (tb mo) w h x1 x2 y1 y2) ∧ u = [(p0, oo 4 [.int (iI mk), .int (iI px), .int (iI py), .int (iI pa), .int (iI pb), .int (iI nw), .ref w1, .ref w2, .int (iI np), .ref w3, .int (iI nq), .ref w4]), (w1, aI E 169 mo)]) := by
  refine MI.of (cc := cX4_byPinwheel) (maxL := 7) (own := RX4) (by decide) rfl rfl rfl (Nat.le_of_ble_eq_true rfl) [(0, .ref p0), (1, .int (iI w)), (2, .int (iI h)), (3, .int (iI x1)), (4, .int (iI x2)), (5, .int (iI y1)), (6, .int (iI y2))] rfl ?_
  intro X hin2 hRet
  unfold vN at hv
  refine g_aload_n 0 dX4_byPinwheel_0 rfl rfl ?_
  refine g_iload_n 3 dX4_byPinwheel_1 rfl rfl ?_
  refine g_iload 6 dX4_byPinwheel_2 rfl ?_
  refine g_callV_i (n := 2) (As := [.int (iI x1), .int (iI y2)]) (wr := []) (C := RX4) [] (c_X4_mostOf E p0 w1 w2 w3 w4 mk px py pa pb nw np nq mo x1 y2 (by omega) (by omega)) [0, 1] [] 0 rfl rfl gX4_byPinwheel_X4_mostOf rfl ⟨rfl, by decide +kernel⟩ ⟨by decide, by decide⟩ rfl rfl rfl rfl rfl (by decide) rfl (by decide) (by decide) (fun _ h => absurd h List.not_mem_nil) dX4_byPinwheel_4 rfl (Nat.le_of_ble_eq_true rfl) ⟨by decide, by decide⟩ (fun r u p_1 => ?_)
  obtain ⟨rfl, rfl⟩ := p_1
  refine g_aload_n 0 dX4_byPinwheel_7 rfl rfl ?_
  refine g_iload_n 1 dX4_byPinwheel_8 rfl rfl ?_
  refine g_iload_n 3 dX4_byPinwheel_9 rfl rfl ?_
  refine g_isub dX4_byPinwheel_10 ?_
  refine g_iload 5 dX4_byPinwheel_11 rfl ?_
  refine g_callV_i (n := 2) (As := [.int (iI (w - x1)), .int (iI y1)]) (wr := []) (C := RX4) [.int (iI (tb mo x1 y2))] (c_X4_mostOf E p0 w1 w2 w3 w4 mk px py pa pb nw np nq mo (w - x1) y1 (by omega) (by omega)) [0, 1] [] 0 rfl rfl gX4_byPinwheel_X4_mostOf rfl ⟨rfl, by decide +kernel⟩ ⟨by decide, by decide⟩ rfl rfl rfl rfl rfl (by decide) rfl (by decide) (by decide) (fun _ h => absurd h List.not_mem_nil) dX4_byPinwheel_13 rfl (Nat.le_of_ble_eq_true rfl) ⟨by decide, by decide⟩ (fun r u p_2 => ?_)
  obtain ⟨rfl, rfl⟩ := p_2
  refine g_iadd dX4_byPinwheel_16 ?_
  refine g_aload_n 0 dX4_byPinwheel_17 rfl rfl ?_
  refine g_iload_n 1 dX4_byPinwheel_18 rfl rfl ?_
  refine g_iload 4 dX4_byPinwheel_19 rfl ?_
  refine g_isub dX4_byPinwheel_21 ?_
  refine g_iload_n 2 dX4_byPinwheel_22 rfl rfl ?_
  refine g_iload 5 dX4_byPinwheel_23 rfl ?_
  refine g_isub dX4_byPinwheel_25 ?_
  refine g_callV_i (n := 2) (As := [.int (iI (w - x2)), .int (iI (h - y1))]) (wr := []) (C := RX4) [.int (iI ((tb mo x1 y2) + (tb mo (w - x1) y1)))] (c_X4_mostOf E p0 w1 w2 w3 w4 mk px py pa pb nw np nq mo (w - x2) (h - y1) (by omega) (by omega)) [0, 1] [] 0 rfl rfl gX4_byPinwheel_X4_mostOf rfl ⟨rfl, by decide +kernel⟩ ⟨by decide, by decide⟩ rfl rfl rfl rfl rfl (by decide) rfl (by decide) (by decide) (fun _ h => absurd h List.not_mem_nil) dX4_byPinwheel_26 rfl (Nat.le_of_ble_eq_true rfl) ⟨by decide, by decide⟩ (fun r u p_3 => ?_)
  obtain ⟨rfl, rfl⟩ := p_3
  refine g_iadd dX4_byPinwheel_29 ?_
  refine g_aload_n 0 dX4_byPinwheel_30 rfl rfl ?_
  refine g_iload 4 dX4_byPinwheel_31 rfl ?_
  refine g_iload_n 2 dX4_byPinwheel_33 rfl rfl ?_
  refine g_iload 6 dX4_byPinwheel_34 rfl ?_
  refine g_isub dX4_byPinwheel_36 ?_
  refine g_callV_i (n := 2) (As := [.int (iI x2), .int (iI (h - y2))]) (wr := []) (C := RX4) [.int (iI (((tb mo x1 y2) + (tb mo (w - x1) y1)) + (tb mo (w - x2) (h - y1))))] (c_X4_mostOf E p0 w1 w2 w3 w4 mk px py pa pb nw np nq mo x2 (h - y2) (by omega) (by omega)) [0, 1] [] 0 rfl rfl gX4_byPinwheel_X4_mostOf rfl ⟨rfl, by decide +kernel⟩ ⟨by decide, by decide⟩ rfl rfl rfl rfl rfl (by decide) rfl (by decide) (by decide) (fun _ h => absurd h List.not_mem_nil) dX4_byPinwheel_37 rfl (Nat.le_of_ble_eq_true rfl) ⟨by decide, by decide⟩ (fun r u p_4 => ?_)
  obtain ⟨rfl, rfl⟩ := p_4
  refine g_iadd dX4_byPinwheel_40 ?_
  refine g_aload_n 0 dX4_byPinwheel_41 rfl rfl ?_
  refine g_iload 4 dX4_byPinwheel_42 rfl ?_
  refine g_iload_n 3 dX4_byPinwheel_44 rfl rfl ?_
  refine g_isub dX4_byPinwheel_45 ?_
  refine g_iload 6 dX4_byPinwheel_46 rfl ?_
  refine g_iload 5 dX4_byPinwheel_48 rfl ?_
  refine g_isub dX4_byPinwheel_50 ?_
  refine g_callV_i (n := 2) (As := [.int (iI (x2 - x1)), .int (iI (y2 - y1))]) (wr := []) (C := RX4) [.int (iI ((((tb mo x1 y2) + (tb mo (w - x1) y1)) + (tb mo (w - x2) (h - y1))) + (tb mo x2 (h - y2))))] (c_X4_mostOf E p0 w1 w2 w3 w4 mk px py pa pb nw np nq mo (x2 - x1) (y2 - y1) (by omega) (by omega)) [0, 1] [] 0 rfl rfl gX4_byPinwheel_X4_mostOf rfl ⟨rfl, by decide +kernel⟩ ⟨by decide, by decide⟩ rfl rfl rfl rfl rfl (by decide) rfl (by decide) (by decide) (fun _ h => absurd h List.not_mem_nil) dX4_byPinwheel_51 rfl (Nat.le_of_ble_eq_true rfl) ⟨by decide, by decide⟩ (fun r u p_5 => ?_)
  obtain ⟨rfl, rfl⟩ := p_5
  refine g_iadd dX4_byPinwheel_54 ?_
  exact g_iret hRet dX4_byPinwheel_55 rfl ⟨(congrArg iI (by rfl)), rfl⟩

set_option maxHeartbeats 4000000 in
set_option maxRecDepth 100000 in
theorem c_X4_mostByPinwheel (E : Ev) (p0 : Nat) (w1 : Nat) (w2 : Nat) (w3 : Nat) (w4 : Nat) (mk : Int) (px : Int) (py : Int) (pa : Int) (pb : Int) (nw : Int) (np : Int) (nq : Int) (mo : Int → Int) (w : Int) (h : Int) (hw : 1 ≤ w ∧ w ≤ 12) (hh : 1 ≤ h ∧ h ≤ 12) (hn : 1 ≤ nw ∧ nw ≤ 12) (hmo : ∀ k, 0 ≤ mo k ∧ mo k ≤ 144) : MI yX4_mostByPinwheel wsX4_mostByPinwheel ({ frames := 2, cells := 0, slots := 0, locals := 48 } : Room) E [] 0 0 [.ref p0, .int (iI w), .int (iI h)] [(p0, oo 4 [.int (iI mk), .int (iI px), .int (iI py), .int (iI pa), .int (iI pb), .int (iI nw), .ref w1, .ref w2, .int (iI np), .ref w3, .int (iI nq), .ref w4]), (w1, aI E 169 mo)] (fun r u => ∃ (v : Int), (isW (tb mo) nw w h v ∧ 0 ≤ v ∧ v ≤ 720) ∧ r = iI v ∧ u = [(p0, oo 4 [.int (iI mk), .int (iI px), .int (iI py), .int (iI pa), .int (iI pb), .int (iI nw), .ref w1, .ref w2, .int (iI np), .ref w3, .int (iI nq), .ref w4]), (w1, aI E 169 mo)]) := by
  refine MI.of (cc := cX4_mostByPinwheel) (maxL := 8) (own := RX4) (by decide) rfl rfl rfl (Nat.le_of_ble_eq_true rfl) [(0, .ref p0), (1, .int (iI w)), (2, .int (iI h))] rfl ?_
  intro X hin2 hRet
  refine g_iconst dX4_mostByPinwheel_0 ?_
  refine g_istore_n (lv1 := [(3, .int (iI 0)), (0, .ref p0), (1, .int (iI w)), (2, .int (iI h))]) dX4_mostByPinwheel_1 rfl (by decide) rfl ?_
  refine g_aload_n 1 dX4_mostByPinwheel_2 rfl rfl ?_
  refine g_get (C := RX4) (T := TX4) (N := 12) 0 5 (fun _ h => List.mem_cons_of_mem _ (List.mem_append_right _ h)) (List.mem_of_getElem? (i := 1) rfl) rfl rfl (by decide) rfl rfl dX4_mostByPinwheel_3 ?_
  refine g_istore (lv1 := [(4, .int (iI nw)), (3, .int (iI 0)), (0, .ref p0), (1, .int (iI w)), (2, .int (iI h))]) dX4_mostByPinwheel_6 (by decide) rfl ?_
  refine g_lv (lv1 := [(0, .ref p0), (1, .int (iI w)), (2, .int (iI h)), (3, .int (iI 0)), (4, .int (iI nw))]) [2, 3, 4, 1, 0] rfl ?_
  have L8 : ∀ (nn : Nat) (x1 : Int) (b1 : Int) (hx1 : nw ≤ x1 ∧ x1 ≤ 12) (hb1 : 0 ≤ b1 ∧ b1 ≤ 720) (hI1 : wI (tb mo) nw w h (4096 * x1) b1) (hm : 13 - x1 < (nn : Int)), G X ({ frames := 2, cells := 0, slots := 0, locals := 48 } : Room) cX4_mostByPinwheel 8 RX4 wsX4_mostByPinwheel E [] 0 0 [(p0, oo 4 [.int (iI mk), .int (iI px), .int (iI py), .int (iI pa), .int (iI pb), .int (iI nw), .ref w1, .ref w2, .int (iI np), .ref w3, .int (iI nq), .ref w4]), (w1, aI E 169 mo)] [(0, .ref p0), (1, .int (iI w)), (2, .int (iI h)), (3, .int (iI b1)), (4, .int (iI x1))] 8 [] := by
    intro nn
    induction nn with
    | zero => intro x1 b1 hx1 hb1 hI1 hm; exfalso; omega
    | succ nn ih8 =>
      intro x1 b1 hx1 hb1 hI1 hm
      refine g_iload 4 dX4_mostByPinwheel_8 rfl ?_
      refine g_iload_n 1 dX4_mostByPinwheel_10 rfl rfl ?_
      refine g_aload_n 0 dX4_mostByPinwheel_11 rfl rfl ?_
      refine g_get (C := RX4) (T := TX4) (N := 12) 0 5 (fun _ h => List.mem_cons_of_mem _ (List.mem_append_right _ h)) (List.mem_of_getElem? (i := 1) rfl) rfl rfl (by decide) rfl rfl dX4_mostByPinwheel_12 ?_
      refine g_isub dX4_mostByPinwheel_15 ?_
      refine g_icmp_ge (tgt := 113) (by unfold R32; omega) (by unfold R32; omega) dX4_mostByPinwheel_16 rfl (fun c_1 => ?_) (fun c_1 => ?_)
      · refine g_iload_n 3 dX4_mostByPinwheel_113 rfl rfl ?_
        exact g_iret hRet dX4_mostByPinwheel_114 rfl ⟨b1, (by refine ⟨⟨fun a b c d hv => aK_e1 (by omega) (by omega) (by omega) (by omega) hI1.1 hv, hI1.2⟩, by omega, by omega⟩), rfl, rfl⟩
      · refine g_iload 4 dX4_mostByPinwheel_19 rfl ?_
        refine g_iconst dX4_mostByPinwheel_21 ?_
        refine g_iadd dX4_mostByPinwheel_22 ?_
        refine g_istore (lv1 := [(5, .int (iI (x1 + 1))), (0, .ref p0), (1, .int (iI w)), (2, .int (iI h)), (3, .int (iI b1)), (4, .int (iI x1))]) dX4_mostByPinwheel_23 (by decide) rfl ?_
        refine g_lv (lv1 := [(0, .ref p0), (1, .int (iI w)), (2, .int (iI h)), (3, .int (iI b1)), (4, .int (iI x1)), (5, .int (iI (x1 + 1)))]) [1, 2, 3, 4, 5, 0] rfl ?_
        have L25 : ∀ (nn : Nat) (x2 : Int) (b2 : Int) (hx2 : x1 < x2 ∧ x2 ≤ 13) (hb2 : 0 ≤ b2 ∧ b2 ≤ 720) (hI2 : wI (tb mo) nw w h (4096 * x1 + 256 * x2) b2) (hm : 14 - x2 < (nn : Int)), G X ({ frames := 2, cells := 0, slots := 0, locals := 48 } : Room) cX4_mostByPinwheel 8 RX4 wsX4_mostByPinwheel E [] 0 0 [(p0, oo 4 [.int (iI mk), .int (iI px), .int (iI py), .int (iI pa), .int (iI pb), .int (iI nw), .ref w1, .ref w2, .int (iI np), .ref w3, .int (iI nq), .ref w4]), (w1, aI E 169 mo)] [(0, .ref p0), (1, .int (iI w)), (2, .int (iI h)), (3, .int (iI b2)), (4, .int (iI x1)), (5, .int (iI x2))] 25 [] := by
          intro nn
          induction nn with
          | zero => intro x2 b2 hx2 hb2 hI2 hm; exfalso; omega
          | succ nn ih25 =>
            intro x2 b2 hx2 hb2 hI2 hm
            refine g_iload 5 dX4_mostByPinwheel_25 rfl ?_
            refine g_iload_n 1 dX4_mostByPinwheel_27 rfl rfl ?_
            refine g_aload_n 0 dX4_mostByPinwheel_28 rfl rfl ?_
            refine g_get (C := RX4) (T := TX4) (N := 12) 0 5 (fun _ h => List.mem_cons_of_mem _ (List.mem_append_right _ h)) (List.mem_of_getElem? (i := 1) rfl) rfl rfl (by decide) rfl rfl dX4_mostByPinwheel_29 ?_
            refine g_isub dX4_mostByPinwheel_32 ?_
            refine g_icmp_gt (tgt := 107) (by unfold R32; omega) (by unfold R32; omega) dX4_mostByPinwheel_33 rfl (fun c_2 => ?_) (fun c_2 => ?_)
            · refine g_iinc (lv1 := [(4, .int (iI (x1 + 1))), (0, .ref p0), (1, .int (iI w)), (2, .int (iI h)), (3, .int (iI b2)), (5, .int (iI x2))]) 4 dX4_mostByPinwheel_107 rfl (by decide) rfl ?_
              refine g_goto (tgt := 8) dX4_mostByPinwheel_110 rfl ?_
              refine g_lv (lv1 := [(0, .ref p0), (1, .int (iI w)), (2, .int (iI h)), (3, .int (iI b2)), (4, .int (iI (x1 + 1)))]) [1, 2, 3, 4, 0] rfl ?_
              exact ih8 (x1 + 1) b2 (by omega) (by omega) (by exact ⟨aK_e2 (by omega) (by omega) (by omega) (by omega) hI2.1, hI2.2⟩) (by omega)
            · refine g_aload_n 0 dX4_mostByPinwheel_36 rfl rfl ?_
              refine g_get (C := RX4) (T := TX4) (N := 12) 0 5 (fun _ h => List.mem_cons_of_mem _ (List.mem_append_right _ h)) (List.mem_of_getElem? (i := 1) rfl) rfl rfl (by decide) rfl rfl dX4_mostByPinwheel_37 ?_
              refine g_istore (lv1 := [(6, .int (iI nw)), (0, .ref p0), (1, .int (iI w)), (2, .int (iI h)), (3, .int (iI b2)), (4, .int (iI x1)), (5, .int (iI x2))]) dX4_mostByPinwheel_40 (by decide) rfl ?_
              refine g_lv (lv1 := [(0, .ref p0), (1, .int (iI w)), (2, .int (iI h)), (3, .int (iI b2)), (4, .int (iI x1)), (5, .int (iI x2)), (6, .int (iI nw))]) [1, 2, 3, 4, 5, 6, 0] rfl ?_
              have L42 : ∀ (nn : Nat) (y1 : Int) (b3 : Int) (hx3 : nw ≤ y1 ∧ y1 ≤ 12) (hb3 : 0 ≤ b3 ∧ b3 ≤ 720) (hI3 : wI (tb mo) nw w h (4096 * x1 + 256 * x2 + 16 * y1) b3) (hm : 13 - y1 < (nn : Int)), G X ({ frames := 2, cells := 0, slots := 0, locals := 48 } : Room) cX4_mostByPinwheel 8 RX4 wsX4_mostByPinwheel E [] 0 0 [(p0, oo 4 [.int (iI mk), .int (iI px), .int (iI py), .int (iI pa), .int (iI pb), .int (iI nw), .ref w1, .ref w2, .int (iI np), .ref w3, .int (iI nq), .ref w4]), (w1, aI E 169 mo)] [(0, .ref p0), (1, .int (iI w)), (2, .int (iI h)), (3, .int (iI b3)), (4, .int (iI x1)), (5, .int (iI x2)), (6, .int (iI y1))] 42 [] := by
                intro nn
                induction nn with
                | zero => intro y1 b3 hx3 hb3 hI3 hm; exfalso; omega
                | succ nn ih42 =>
                  intro y1 b3 hx3 hb3 hI3 hm
                  refine g_iload 6 dX4_mostByPinwheel_42 rfl ?_
                  refine g_iload_n 2 dX4_mostByPinwheel_44 rfl rfl ?_
                  refine g_aload_n 0 dX4_mostByPinwheel_45 rfl rfl ?_
                  refine g_get (C := RX4) (T := TX4) (N := 12) 0 5 (fun _ h => List.mem_cons_of_mem _ (List.mem_append_right _ h)) (List.mem_of_getElem? (i := 1) rfl) rfl rfl (by decide) rfl rfl dX4_mostByPinwheel_46 ?_
                  refine g_isub dX4_mostByPinwheel_49 ?_
                  refine g_icmp_ge (tgt := 101) (by unfold R32; omega) (by unfold R32; omega) dX4_mostByPinwheel_50 rfl (fun c_3 => ?_) (fun c_3 => ?_)
                  · refine g_iinc (lv1 := [(5, .int (iI (x2 + 1))), (0, .ref p0), (1, .int (iI w)), (2, .int (iI h)), (3, .int (iI b3)), (4, .int (iI x1)), (6, .int (iI y1))]) 5 dX4_mostByPinwheel_101 rfl (by decide) rfl ?_
                    refine g_goto (tgt := 25) dX4_mostByPinwheel_104 rfl ?_
                    refine g_lv (lv1 := [(0, .ref p0), (1, .int (iI w)), (2, .int (iI h)), (3, .int (iI b3)), (4, .int (iI x1)), (5, .int (iI (x2 + 1)))]) [1, 2, 3, 4, 5, 0] rfl ?_
                    exact ih25 (x2 + 1) b3 (by omega) (by omega) (by exact ⟨aK_e3 (by omega) (by omega) (by omega) (by omega) hI3.1, hI3.2⟩) (by omega)
                  · refine g_iload 6 dX4_mostByPinwheel_53 rfl ?_
                    refine g_iconst dX4_mostByPinwheel_55 ?_
                    refine g_iadd dX4_mostByPinwheel_56 ?_
                    refine g_istore (lv1 := [(7, .int (iI (y1 + 1))), (0, .ref p0), (1, .int (iI w)), (2, .int (iI h)), (3, .int (iI b3)), (4, .int (iI x1)), (5, .int (iI x2)), (6, .int (iI y1))]) dX4_mostByPinwheel_57 (by decide) rfl ?_
                    refine g_lv (lv1 := [(0, .ref p0), (1, .int (iI w)), (2, .int (iI h)), (3, .int (iI b3)), (4, .int (iI x1)), (5, .int (iI x2)), (6, .int (iI y1)), (7, .int (iI (y1 + 1)))]) [1, 2, 3, 4, 5, 6, 7, 0] rfl ?_
                    have L59 : ∀ (nn : Nat) (y2 : Int) (b4 : Int) (hx4 : y1 < y2 ∧ y2 ≤ 13) (hb4 : 0 ≤ b4 ∧ b4 ≤ 720) (hI4 : wI (tb mo) nw w h (4096 * x1 + 256 * x2 + 16 * y1 + y2) b4) (hm : 14 - y2 < (nn : Int)), G X ({ frames := 2, cells := 0, slots := 0, locals := 48 } : Room) cX4_mostByPinwheel 8 RX4 wsX4_mostByPinwheel E [] 0 0 [(p0, oo 4 [.int (iI mk), .int (iI px), .int (iI py), .int (iI pa), .int (iI pb), .int (iI nw), .ref w1, .ref w2, .int (iI np), .ref w3, .int (iI nq), .ref w4]), (w1, aI E 169 mo)] [(0, .ref p0), (1, .int (iI w)), (2, .int (iI h)), (3, .int (iI b4)), (4, .int (iI x1)), (5, .int (iI x2)), (6, .int (iI y1)), (7, .int (iI y2))] 59 [] := by
                      intro nn
                      induction nn with
                      | zero => intro y2 b4 hx4 hb4 hI4 hm; exfalso; omega
                      | succ nn ih59 =>
                        intro y2 b4 hx4 hb4 hI4 hm
                        refine g_iload 7 dX4_mostByPinwheel_59 rfl ?_
                        refine g_iload_n 2 dX4_mostByPinwheel_61 rfl rfl ?_
                        refine g_aload_n 0 dX4_mostByPinwheel_62 rfl rfl ?_
                        refine g_get (C := RX4) (T := TX4) (N := 12) 0 5 (fun _ h => List.mem_cons_of_mem _ (List.mem_append_right _ h)) (List.mem_of_getElem? (i := 1) rfl) rfl rfl (by decide) rfl rfl dX4_mostByPinwheel_63 ?_
                        refine g_isub dX4_mostByPinwheel_66 ?_
                        refine g_icmp_gt (tgt := 95) (by unfold R32; omega) (by unfold R32; omega) dX4_mostByPinwheel_67 rfl (fun c_4 => ?_) (fun c_4 => ?_)
                        · refine g_iinc (lv1 := [(6, .int (iI (y1 + 1))), (0, .ref p0), (1, .int (iI w)), (2, .int (iI h)), (3, .int (iI b4)), (4, .int (iI x1)), (5, .int (iI x2)), (7, .int (iI y2))]) 6 dX4_mostByPinwheel_95 rfl (by decide) rfl ?_
                          refine g_goto (tgt := 42) dX4_mostByPinwheel_98 rfl ?_
                          refine g_lv (lv1 := [(0, .ref p0), (1, .int (iI w)), (2, .int (iI h)), (3, .int (iI b4)), (4, .int (iI x1)), (5, .int (iI x2)), (6, .int (iI (y1 + 1)))]) [1, 2, 3, 4, 5, 6, 0] rfl ?_
                          exact ih42 (y1 + 1) b4 (by omega) (by omega) (by exact ⟨aK_e4 (by omega) (by omega) (by omega) (by omega) hI4.1, hI4.2⟩) (by omega)
                        · refine g_iload_n 3 dX4_mostByPinwheel_70 rfl rfl ?_
                          refine g_aload_n 0 dX4_mostByPinwheel_71 rfl rfl ?_
                          refine g_iload_n 1 dX4_mostByPinwheel_72 rfl rfl ?_
                          refine g_iload_n 2 dX4_mostByPinwheel_73 rfl rfl ?_
                          refine g_iload 4 dX4_mostByPinwheel_74 rfl ?_
                          refine g_iload 5 dX4_mostByPinwheel_76 rfl ?_
                          refine g_iload 6 dX4_mostByPinwheel_78 rfl ?_
                          refine g_iload 7 dX4_mostByPinwheel_80 rfl ?_
                          refine g_callV_i (n := 6) (As := [.int (iI w), .int (iI h), .int (iI x1), .int (iI x2), .int (iI y1), .int (iI y2)]) (wr := []) (C := RX4) [.int (iI b4)] (c_X4_byPinwheel E p0 w1 w2 w3 w4 mk px py pa pb nw np nq mo w h x1 x2 y1 y2 (by omega) (by omega) (by unfold vN; omega)) [0, 1] [] 0 rfl rfl gX4_mostByPinwheel_X4_byPinwheel rfl ⟨rfl, by decide +kernel⟩ ⟨by decide, by decide⟩ rfl rfl rfl rfl rfl (by decide) rfl (by decide) (by decide) (fun _ h => absurd h List.not_mem_nil) dX4_mostByPinwheel_82 rfl (Nat.le_of_ble_eq_true rfl) ⟨by decide, by decide⟩ (fun r u p_5 => ?_)
                          obtain ⟨rfl, rfl⟩ := p_5
                          have hcp := cP_b hmo w h x1 x2 y1 y2
                          refine g_mmax (by unfold R32; omega) (by unfold R32; omega) (List.mem_of_getElem? (i := 2) rfl) (List.mem_of_getElem? (i := 3) rfl) (List.mem_of_getElem? (i := 4) rfl) (List.mem_of_getElem? (i := 5) rfl) (by decide) (Nat.le_of_ble_eq_true rfl) (by decide) dX4_mostByPinwheel_85 ?_
                          refine g_istore_n (lv1 := [(3, .int (iI (max b4 (cP (tb mo) w h x1 x2 y1 y2)))), (0, .ref p0), (1, .int (iI w)), (2, .int (iI h)), (4, .int (iI x1)), (5, .int (iI x2)), (6, .int (iI y1)), (7, .int (iI y2))]) dX4_mostByPinwheel_88 rfl (by decide) rfl ?_
                          refine g_iinc (lv1 := [(7, .int (iI (y2 + 1))), (3, .int (iI (max b4 (cP (tb mo) w h x1 x2 y1 y2)))), (0, .ref p0), (1, .int (iI w)), (2, .int (iI h)), (4, .int (iI x1)), (5, .int (iI x2)), (6, .int (iI y1))]) 7 dX4_mostByPinwheel_89 rfl (by decide) rfl ?_
                          refine g_goto (tgt := 59) dX4_mostByPinwheel_92 rfl ?_
                          refine g_lv (lv1 := [(0, .ref p0), (1, .int (iI w)), (2, .int (iI h)), (3, .int (iI (max b4 (cP (tb mo) w h x1 x2 y1 y2)))), (4, .int (iI x1)), (5, .int (iI x2)), (6, .int (iI y1)), (7, .int (iI (y2 + 1)))]) [2, 3, 4, 1, 5, 6, 7, 0] rfl ?_
                          exact ih59 (y2 + 1) (max b4 (cP (tb mo) w h x1 x2 y1 y2)) (by omega) (by omega) (by exact wI_s (by omega) (by omega) (by omega) (by unfold vN; omega) hI4) (by omega)
                    exact L59 _ (y1 + 1) b3 (by omega) (by omega) (by exact ⟨aK_y2 (by omega) (by omega) (by omega) (by omega) hI3.1, hI3.2⟩) (lt_nn _)
              exact L42 _ nw b2 (by omega) (by omega) (by exact ⟨aK_y1 (by omega) (by omega) (by omega) hI2.1, hI2.2⟩) (lt_nn _)
        exact L25 _ (x1 + 1) b1 (by omega) (by omega) (by exact ⟨aK_x2 (by omega) (by omega) (by omega) hI1.1, hI1.2⟩) (lt_nn _)
  exact L8 _ nw 0 (by omega) (by omega) (by exact ⟨aK_0 (by omega) (by omega) (by omega), Or.inl rfl⟩) (lt_nn _)

set_option maxHeartbeats 4000000 in
set_option maxRecDepth 100000 in
theorem c_X4_mostIn (E : Ev) (p0 : Nat) (w1 : Nat) (w2 : Nat) (w3 : Nat) (w4 : Nat) (mk : Int) (px : Int) (py : Int) (pa : Int) (pb : Int) (nw : Int) (np : Int) (nq : Int) (mo : Int → Int) (w : Int) (h : Int) (hw : 1 ≤ w ∧ w ≤ 12) (hh : 1 ≤ h ∧ h ≤ 12) (hab : (1 ≤ pa ∧ pa ≤ 12) ∧ 1 ≤ pb ∧ pb ≤ 12) (hn : 1 ≤ nw ∧ nw ≤ pa ∧ nw ≤ pb) (hmo : ∀ k, 0 ≤ mo k ∧ mo k ≤ 144) (hG : gB pa pb (tb mo) w h) : MI yX4_mostIn wsX4_mostIn ({ frames := 3, cells := 0, slots := 0, locals := 75 } : Room) E [] 0 0 [.ref p0, .int (iI w), .int (iI h)] [(p0, oo 4 [.int (iI mk), .int (iI px), .int (iI py), .int (iI pa), .int (iI pb), .int (iI nw), .ref w1, .ref w2, .int (iI np), .ref w3, .int (iI nq), .ref w4]), (w1, aI E 169 mo)] (fun r u => ∃ (v : Int), isB pa pb (tb mo) w h v ∧ r = iI v ∧ u = [(p0, oo 4 [.int (iI mk), .int (iI px), .int (iI py), .int (iI pa), .int (iI pb), .int (iI nw), .ref w1, .ref w2, .int (iI np), .ref w3, .int (iI nq), .ref w4]), (w1, aI E 169 mo)]) := by
  refine MI.of (cc := cX4_mostIn) (maxL := 5) (own := RX4) (by decide) rfl rfl rfl (Nat.le_of_ble_eq_true rfl) [(0, .ref p0), (1, .int (iI w)), (2, .int (iI h))] rfl ?_
  intro X hin2 hRet
  refine g_aload_n 0 dX4_mostIn_0 rfl rfl ?_
  refine g_get (C := RX4) (T := TX4) (N := 12) 0 3 (fun _ h => List.mem_cons_of_mem _ (List.mem_append_right _ h)) (List.mem_of_getElem? (i := 1) rfl) rfl rfl (by decide) rfl rfl dX4_mostIn_1 ?_
  refine g_aload_n 0 dX4_mostIn_4 rfl rfl ?_
  refine g_get (C := RX4) (T := TX4) (N := 12) 0 4 (fun _ h => List.mem_cons_of_mem _ (List.mem_append_right _ h)) (List.mem_of_getElem? (i := 2) rfl) rfl rfl (by decide) rfl rfl dX4_mostIn_5 ?_
  refine g_iload_n 1 dX4_mostIn_8 rfl rfl ?_
  refine g_iload_n 2 dX4_mostIn_9 rfl rfl ?_
  refine g_callS_i (n := 4) (As := [.int (iI pa), .int (iI pb), .int (iI w), .int (iI h)]) (wr := [(p0, oo 4 [.int (iI mk), .int (iI px), .int (iI py), .int (iI pa), .int (iI pb), .int (iI nw), .ref w1, .ref w2, .int (iI np), .ref w3, .int (iI nq), .ref w4]), (w1, aI E 169 mo)]) [] (c_X4_fits E pa pb w h (by omega) (by omega) (by omega) (by omega)) [] [0, 1] gX4_mostIn_X4_fits rfl ⟨rfl, by decide +kernel⟩ ⟨by decide, by decide⟩ rfl rfl rfl rfl rfl (by decide) rfl (by decide) (by decide) (fun _ h => absurd h List.not_mem_nil) dX4_mostIn_10 rfl (Nat.le_of_ble_eq_true rfl) ⟨by decide, by decide⟩ (fun r u p_1 => ?_)
  obtain ⟨rfl, rfl⟩ := p_1
  refine g_perm (ws1 := [(p0, oo 4 [.int (iI mk), .int (iI px), .int (iI py), .int (iI pa), .int (iI pb), .int (iI nw), .ref w1, .ref w2, .int (iI np), .ref w3, .int (iI nq), .ref w4]), (w1, aI E 169 mo)]) [0, 1] rfl (by decide) rfl ?_
  refine g_if_ne_b (tgt := 32) dX4_mostIn_13 rfl (fun c_2 => ?_) (fun c_2 => ?_)
  · refine g_iconst dX4_mostIn_32 ?_
    refine g_goto (tgt := 37) dX4_mostIn_33 rfl ?_
    have hbs := bs_01 pa pb w h
    refine g_top (y := iI (bs pa pb w h)) (congrArg iI (by unfold bs; first | (rw [if_pos (by omega)]; done) | (rw [if_neg (by omega)]; done))) ?_
    refine g_istore_n (lv1 := [(3, .int (iI (bs pa pb w h))), (0, .ref p0), (1, .int (iI w)), (2, .int (iI h))]) dX4_mostIn_37 rfl (by decide) rfl ?_
    refine g_iconst dX4_mostIn_38 ?_
    refine g_istore (lv1 := [(4, .int (iI 1)), (3, .int (iI (bs pa pb w h))), (0, .ref p0), (1, .int (iI w)), (2, .int (iI h))]) dX4_mostIn_39 (by decide) rfl ?_
    refine g_lv (lv1 := [(0, .ref p0), (1, .int (iI w)), (2, .int (iI h)), (3, .int (iI (bs pa pb w h))), (4, .int (iI 1))]) [2, 3, 4, 1, 0] rfl ?_
    have L41 : ∀ (nn : Nat) (k : Int) (v1 : Int) (hk : 1 ≤ k ∧ k ≤ w) (hv1 : 0 ≤ v1 ∧ v1 ≤ 720) (hK1 : kI (bs pa pb w h) (cU (tb mo) w h) k v1) (hm : w - k < (nn : Int)), G X ({ frames := 3, cells := 0, slots := 0, locals := 75 } : Room) cX4_mostIn 5 RX4 wsX4_mostIn E [] 0 0 [(p0, oo 4 [.int (iI mk), .int (iI px), .int (iI py), .int (iI pa), .int (iI pb), .int (iI nw), .ref w1, .ref w2, .int (iI np), .ref w3, .int (iI nq), .ref w4]), (w1, aI E 169 mo)] [(0, .ref p0), (1, .int (iI w)), (2, .int (iI h)), (3, .int (iI v1)), (4, .int (iI k))] 41 [] := by
      intro nn
      induction nn with
      | zero => intro k v1 hk hv1 hK1 hm; exfalso; omega
      | succ nn ih41 =>
        intro k v1 hk hv1 hK1 hm
        refine g_iload 4 dX4_mostIn_41 rfl ?_
        refine g_iload_n 1 dX4_mostIn_43 rfl rfl ?_
        refine g_icmp_ge (tgt := 66) (by unfold R32; omega) (by unfold R32; omega) dX4_mostIn_44 rfl (fun c_3 => ?_) (fun c_3 => ?_)
        · refine g_iconst dX4_mostIn_66 ?_
          refine g_istore (lv1 := [(4, .int (iI 1)), (0, .ref p0), (1, .int (iI w)), (2, .int (iI h)), (3, .int (iI v1))]) dX4_mostIn_67 (by decide) rfl ?_
          refine g_lv (lv1 := [(0, .ref p0), (1, .int (iI w)), (2, .int (iI h)), (3, .int (iI v1)), (4, .int (iI 1))]) [1, 2, 3, 4, 0] rfl ?_
          have L69 : ∀ (nn : Nat) (j : Int) (v2 : Int) (hj : 1 ≤ j ∧ j ≤ h) (hv2 : 0 ≤ v2 ∧ v2 ≤ 720) (hK2 : kI v1 (cL (tb mo) w h) j v2) (hm : h - j < (nn : Int)), G X ({ frames := 3, cells := 0, slots := 0, locals := 75 } : Room) cX4_mostIn 5 RX4 wsX4_mostIn E [] 0 0 [(p0, oo 4 [.int (iI mk), .int (iI px), .int (iI py), .int (iI pa), .int (iI pb), .int (iI nw), .ref w1, .ref w2, .int (iI np), .ref w3, .int (iI nq), .ref w4]), (w1, aI E 169 mo)] [(0, .ref p0), (1, .int (iI w)), (2, .int (iI h)), (3, .int (iI v2)), (4, .int (iI j))] 69 [] := by
            intro nn
            induction nn with
            | zero => intro j v2 hj hv2 hK2 hm; exfalso; omega
            | succ nn ih69 =>
              intro j v2 hj hv2 hK2 hm
              refine g_iload 4 dX4_mostIn_69 rfl ?_
              refine g_iload_n 2 dX4_mostIn_71 rfl rfl ?_
              refine g_icmp_ge (tgt := 94) (by unfold R32; omega) (by unfold R32; omega) dX4_mostIn_72 rfl (fun c_4 => ?_) (fun c_4 => ?_)
              · refine g_iload_n 3 dX4_mostIn_94 rfl rfl ?_
                refine g_iconst dX4_mostIn_95 ?_
                refine g_iadd dX4_mostIn_96 ?_
                refine g_aload_n 0 dX4_mostIn_97 rfl rfl ?_
                refine g_get (C := RX4) (T := TX4) (N := 12) 0 3 (fun _ h => List.mem_cons_of_mem _ (List.mem_append_right _ h)) (List.mem_of_getElem? (i := 1) rfl) rfl rfl (by decide) rfl rfl dX4_mostIn_98 ?_
                refine g_imul dX4_mostIn_101 ?_
                refine g_aload_n 0 dX4_mostIn_102 rfl rfl ?_
                refine g_get (C := RX4) (T := TX4) (N := 12) 0 4 (fun _ h => List.mem_cons_of_mem _ (List.mem_append_right _ h)) (List.mem_of_getElem? (i := 2) rfl) rfl rfl (by decide) rfl rfl dX4_mostIn_103 ?_
                refine g_imul dX4_mostIn_106 ?_
                refine g_iload_n 1 dX4_mostIn_107 rfl rfl ?_
                refine g_iload_n 2 dX4_mostIn_108 rfl rfl ?_
                refine g_imul dX4_mostIn_109 ?_
                have hp1 := prod3 (u := v2 + 1) (a := pa) (b := pb) (by omega) (by omega) (by omega)
                have hp2 := wh_144 (w := w) (h := h) (by omega) (by omega)
                have hp3 := Int.mul_nonneg (show 0 ≤ w by omega) (show 0 ≤ h by omega)
                have hS : isS pa pb (tb mo) w h v2 := kI_S (show k = w by omega) (show j = h by omega) hK1 hK2
                refine g_icmp_le (tgt := 115) (by unfold R32; omega) (by unfold R32; omega) dX4_mostIn_110 rfl (fun c_5 => ?_) (fun c_5 => ?_)
                · refine g_iload_n 3 dX4_mostIn_115 rfl rfl ?_
                  refine g_aload_n 0 dX4_mostIn_116 rfl rfl ?_
                  refine g_iload_n 1 dX4_mostIn_117 rfl rfl ?_
                  refine g_iload_n 2 dX4_mostIn_118 rfl rfl ?_
                  refine g_callV_i (n := 2) (As := [.int (iI w), .int (iI h)]) (wr := []) (C := RX4) [.int (iI v2)] (c_X4_mostByPinwheel E p0 w1 w2 w3 w4 mk px py pa pb nw np nq mo w h (by omega) (by omega) (by omega) (by exact hmo)) [0, 1] [] 0 rfl rfl gX4_mostIn_X4_mostByPinwheel rfl ⟨rfl, by decide +kernel⟩ ⟨by decide, by decide⟩ rfl rfl rfl rfl rfl (by decide) rfl (by decide) (by decide) (fun _ h => absurd h List.not_mem_nil) dX4_mostIn_119 rfl (Nat.le_of_ble_eq_true rfl) ⟨by decide, by decide⟩ (fun r u p_6 => ?_)
                  obtain ⟨vw, fw, rfl, rfl⟩ := p_6
                  obtain ⟨fw1, fw2⟩ := fw
                  refine g_mmax (by unfold R32; omega) (by unfold R32; omega) (List.mem_of_getElem? (i := 3) rfl) (List.mem_of_getElem? (i := 4) rfl) (List.mem_of_getElem? (i := 5) rfl) (List.mem_of_getElem? (i := 6) rfl) (by decide) (Nat.le_of_ble_eq_true rfl) (by decide) dX4_mostIn_122 ?_
                  exact g_iret hRet dX4_mostIn_125 rfl ⟨(max v2 vw), (by exact isB_max ⟨by omega, by omega⟩ (by omega) hG hS fw1), rfl, rfl⟩
                · refine g_iload_n 3 dX4_mostIn_113 rfl rfl ?_
                  exact g_iret hRet dX4_mostIn_114 rfl ⟨v2, (by exact isB_prune hab.1.1 hab.2.1 hG (by omega) hS), rfl, rfl⟩
              · refine g_iload_n 3 dX4_mostIn_75 rfl rfl ?_
                refine g_aload_n 0 dX4_mostIn_76 rfl rfl ?_
                refine g_iload_n 1 dX4_mostIn_77 rfl rfl ?_
                refine g_iload_n 2 dX4_mostIn_78 rfl rfl ?_
                refine g_iload 4 dX4_mostIn_79 rfl ?_
                refine g_callV_i (n := 3) (As := [.int (iI w), .int (iI h), .int (iI j)]) (wr := []) (C := RX4) [.int (iI v2)] (c_X4_byLevelCut E p0 w1 w2 w3 w4 mk px py pa pb nw np nq mo w h j (by omega) (by omega) (by omega)) [0, 1] [] 0 rfl rfl gX4_mostIn_X4_byLevelCut rfl ⟨rfl, by decide +kernel⟩ ⟨by decide, by decide⟩ rfl rfl rfl rfl rfl (by decide) rfl (by decide) (by decide) (fun _ h => absurd h List.not_mem_nil) dX4_mostIn_81 rfl (Nat.le_of_ble_eq_true rfl) ⟨by decide, by decide⟩ (fun r u p_7 => ?_)
                obtain ⟨rfl, rfl⟩ := p_7
                have hcl := cL_b hmo w h j
                refine g_mmax (by unfold R32; omega) (by unfold R32; omega) (List.mem_of_getElem? (i := 3) rfl) (List.mem_of_getElem? (i := 4) rfl) (List.mem_of_getElem? (i := 5) rfl) (List.mem_of_getElem? (i := 6) rfl) (by decide) (Nat.le_of_ble_eq_true rfl) (by decide) dX4_mostIn_84 ?_
                refine g_istore_n (lv1 := [(3, .int (iI (max v2 (cL (tb mo) w h j)))), (0, .ref p0), (1, .int (iI w)), (2, .int (iI h)), (4, .int (iI j))]) dX4_mostIn_87 rfl (by decide) rfl ?_
                refine g_iinc (lv1 := [(4, .int (iI (j + 1))), (3, .int (iI (max v2 (cL (tb mo) w h j)))), (0, .ref p0), (1, .int (iI w)), (2, .int (iI h))]) 4 dX4_mostIn_88 rfl (by decide) rfl ?_
                refine g_goto (tgt := 69) dX4_mostIn_91 rfl ?_
                refine g_lv (lv1 := [(0, .ref p0), (1, .int (iI w)), (2, .int (iI h)), (3, .int (iI (max v2 (cL (tb mo) w h j)))), (4, .int (iI (j + 1)))]) [2, 3, 4, 1, 0] rfl ?_
                exact ih69 (j + 1) (max v2 (cL (tb mo) w h j)) (by omega) (by omega) (by exact kI_s (by omega) hK2) (by omega)
          exact L69 _ 1 v1 (by omega) (by omega) (by exact kI_1 _ _) (lt_nn _)
        · refine g_iload_n 3 dX4_mostIn_47 rfl rfl ?_
          refine g_aload_n 0 dX4_mostIn_48 rfl rfl ?_
          refine g_iload_n 1 dX4_mostIn_49 rfl rfl ?_
          refine g_iload_n 2 dX4_mostIn_50 rfl rfl ?_
          refine g_iload 4 dX4_mostIn_51 rfl ?_
          refine g_callV_i (n := 3) (As := [.int (iI w), .int (iI h), .int (iI k)]) (wr := []) (C := RX4) [.int (iI v1)] (c_X4_byUprightCut E p0 w1 w2 w3 w4 mk px py pa pb nw np nq mo w h k (by omega) (by omega) (by omega)) [0, 1] [] 0 rfl rfl gX4_mostIn_X4_byUprightCut rfl ⟨rfl, by decide +kernel⟩ ⟨by decide, by decide⟩ rfl rfl rfl rfl rfl (by decide) rfl (by decide) (by decide) (fun _ h => absurd h List.not_mem_nil) dX4_mostIn_53 rfl (Nat.le_of_ble_eq_true rfl) ⟨by decide, by decide⟩ (fun r u p_8 => ?_)
          obtain ⟨rfl, rfl⟩ := p_8
          have hcu := cU_b hmo w h k
          refine g_mmax (by unfold R32; omega) (by unfold R32; omega) (List.mem_of_getElem? (i := 3) rfl) (List.mem_of_getElem? (i := 4) rfl) (List.mem_of_getElem? (i := 5) rfl) (List.mem_of_getElem? (i := 6) rfl) (by decide) (Nat.le_of_ble_eq_true rfl) (by decide) dX4_mostIn_56 ?_
          refine g_istore_n (lv1 := [(3, .int (iI (max v1 (cU (tb mo) w h k)))), (0, .ref p0), (1, .int (iI w)), (2, .int (iI h)), (4, .int (iI k))]) dX4_mostIn_59 rfl (by decide) rfl ?_
          refine g_iinc (lv1 := [(4, .int (iI (k + 1))), (3, .int (iI (max v1 (cU (tb mo) w h k)))), (0, .ref p0), (1, .int (iI w)), (2, .int (iI h))]) 4 dX4_mostIn_60 rfl (by decide) rfl ?_
          refine g_goto (tgt := 41) dX4_mostIn_63 rfl ?_
          refine g_lv (lv1 := [(0, .ref p0), (1, .int (iI w)), (2, .int (iI h)), (3, .int (iI (max v1 (cU (tb mo) w h k)))), (4, .int (iI (k + 1)))]) [2, 3, 4, 1, 0] rfl ?_
          exact ih41 (k + 1) (max v1 (cU (tb mo) w h k)) (by omega) (by omega) (by exact kI_s (by omega) hK1) (by omega)
    exact L41 _ 1 (bs pa pb w h) (by omega) (by omega) (by exact kI_1 _ _) (lt_nn _)
  · refine g_aload_n 0 dX4_mostIn_16 rfl rfl ?_
    refine g_get (C := RX4) (T := TX4) (N := 12) 0 4 (fun _ h => List.mem_cons_of_mem _ (List.mem_append_right _ h)) (List.mem_of_getElem? (i := 2) rfl) rfl rfl (by decide) rfl rfl dX4_mostIn_17 ?_
    refine g_aload_n 0 dX4_mostIn_20 rfl rfl ?_
    refine g_get (C := RX4) (T := TX4) (N := 12) 0 3 (fun _ h => List.mem_cons_of_mem _ (List.mem_append_right _ h)) (List.mem_of_getElem? (i := 1) rfl) rfl rfl (by decide) rfl rfl dX4_mostIn_21 ?_
    refine g_iload_n 1 dX4_mostIn_24 rfl rfl ?_
    refine g_iload_n 2 dX4_mostIn_25 rfl rfl ?_
    refine g_callS_i (n := 4) (As := [.int (iI pb), .int (iI pa), .int (iI w), .int (iI h)]) (wr := [(p0, oo 4 [.int (iI mk), .int (iI px), .int (iI py), .int (iI pa), .int (iI pb), .int (iI nw), .ref w1, .ref w2, .int (iI np), .ref w3, .int (iI nq), .ref w4]), (w1, aI E 169 mo)]) [] (c_X4_fits E pb pa w h (by omega) (by omega) (by omega) (by omega)) [] [0, 1] gX4_mostIn_X4_fits rfl ⟨rfl, by decide +kernel⟩ ⟨by decide, by decide⟩ rfl rfl rfl rfl rfl (by decide) rfl (by decide) (by decide) (fun _ h => absurd h List.not_mem_nil) dX4_mostIn_26 rfl (Nat.le_of_ble_eq_true rfl) ⟨by decide, by decide⟩ (fun r u p_9 => ?_)
    obtain ⟨rfl, rfl⟩ := p_9
    refine g_perm (ws1 := [(p0, oo 4 [.int (iI mk), .int (iI px), .int (iI py), .int (iI pa), .int (iI pb), .int (iI nw), .ref w1, .ref w2, .int (iI np), .ref w3, .int (iI nq), .ref w4]), (w1, aI E 169 mo)]) [0, 1] rfl (by decide) rfl ?_
    refine g_if_eq_b (tgt := 36) dX4_mostIn_29 rfl (fun c_10 => ?_) (fun c_10 => ?_)
    · refine g_iconst dX4_mostIn_32 ?_
      refine g_goto (tgt := 37) dX4_mostIn_33 rfl ?_
      have hbs := bs_01 pa pb w h
      refine g_top (y := iI (bs pa pb w h)) (congrArg iI (by unfold bs; first | (rw [if_pos (by omega)]; done) | (rw [if_neg (by omega)]; done))) ?_
      refine g_istore_n (lv1 := [(3, .int (iI (bs pa pb w h))), (0, .ref p0), (1, .int (iI w)), (2, .int (iI h))]) dX4_mostIn_37 rfl (by decide) rfl ?_
      refine g_iconst dX4_mostIn_38 ?_
      refine g_istore (lv1 := [(4, .int (iI 1)), (3, .int (iI (bs pa pb w h))), (0, .ref p0), (1, .int (iI w)), (2, .int (iI h))]) dX4_mostIn_39 (by decide) rfl ?_
      refine g_lv (lv1 := [(0, .ref p0), (1, .int (iI w)), (2, .int (iI h)), (3, .int (iI (bs pa pb w h))), (4, .int (iI 1))]) [2, 3, 4, 1, 0] rfl ?_
      have L41 : ∀ (nn : Nat) (k : Int) (v1 : Int) (hk : 1 ≤ k ∧ k ≤ w) (hv1 : 0 ≤ v1 ∧ v1 ≤ 720) (hK1 : kI (bs pa pb w h) (cU (tb mo) w h) k v1) (hm : w - k < (nn : Int)), G X ({ frames := 3, cells := 0, slots := 0, locals := 75 } : Room) cX4_mostIn 5 RX4 wsX4_mostIn E [] 0 0 [(p0, oo 4 [.int (iI mk), .int (iI px), .int (iI py), .int (iI pa), .int (iI pb), .int (iI nw), .ref w1, .ref w2, .int (iI np), .ref w3, .int (iI nq), .ref w4]), (w1, aI E 169 mo)] [(0, .ref p0), (1, .int (iI w)), (2, .int (iI h)), (3, .int (iI v1)), (4, .int (iI k))] 41 [] := by
        intro nn
        induction nn with
        | zero => intro k v1 hk hv1 hK1 hm; exfalso; omega
        | succ nn ih41 =>
          intro k v1 hk hv1 hK1 hm
          refine g_iload 4 dX4_mostIn_41 rfl ?_
          refine g_iload_n 1 dX4_mostIn_43 rfl rfl ?_
          refine g_icmp_ge (tgt := 66) (by unfold R32; omega) (by unfold R32; omega) dX4_mostIn_44 rfl (fun c_11 => ?_) (fun c_11 => ?_)
          · refine g_iconst dX4_mostIn_66 ?_
            refine g_istore (lv1 := [(4, .int (iI 1)), (0, .ref p0), (1, .int (iI w)), (2, .int (iI h)), (3, .int (iI v1))]) dX4_mostIn_67 (by decide) rfl ?_
            refine g_lv (lv1 := [(0, .ref p0), (1, .int (iI w)), (2, .int (iI h)), (3, .int (iI v1)), (4, .int (iI 1))]) [1, 2, 3, 4, 0] rfl ?_
            have L69 : ∀ (nn : Nat) (j : Int) (v2 : Int) (hj : 1 ≤ j ∧ j ≤ h) (hv2 : 0 ≤ v2 ∧ v2 ≤ 720) (hK2 : kI v1 (cL (tb mo) w h) j v2) (hm : h - j < (nn : Int)), G X ({ frames := 3, cells := 0, slots := 0, locals := 75 } : Room) cX4_mostIn 5 RX4 wsX4_mostIn E [] 0 0 [(p0, oo 4 [.int (iI mk), .int (iI px), .int (iI py), .int (iI pa), .int (iI pb), .int (iI nw), .ref w1, .ref w2, .int (iI np), .ref w3, .int (iI nq), .ref w4]), (w1, aI E 169 mo)] [(0, .ref p0), (1, .int (iI w)), (2, .int (iI h)), (3, .int (iI v2)), (4, .int (iI j))] 69 [] := by
              intro nn
              induction nn with
              | zero => intro j v2 hj hv2 hK2 hm; exfalso; omega
              | succ nn ih69 =>
                intro j v2 hj hv2 hK2 hm
                refine g_iload 4 dX4_mostIn_69 rfl ?_
                refine g_iload_n 2 dX4_mostIn_71 rfl rfl ?_
                refine g_icmp_ge (tgt := 94) (by unfold R32; omega) (by unfold R32; omega) dX4_mostIn_72 rfl (fun c_12 => ?_) (fun c_12 => ?_)
                · refine g_iload_n 3 dX4_mostIn_94 rfl rfl ?_
                  refine g_iconst dX4_mostIn_95 ?_
                  refine g_iadd dX4_mostIn_96 ?_
                  refine g_aload_n 0 dX4_mostIn_97 rfl rfl ?_
                  refine g_get (C := RX4) (T := TX4) (N := 12) 0 3 (fun _ h => List.mem_cons_of_mem _ (List.mem_append_right _ h)) (List.mem_of_getElem? (i := 1) rfl) rfl rfl (by decide) rfl rfl dX4_mostIn_98 ?_
                  refine g_imul dX4_mostIn_101 ?_
                  refine g_aload_n 0 dX4_mostIn_102 rfl rfl ?_
                  refine g_get (C := RX4) (T := TX4) (N := 12) 0 4 (fun _ h => List.mem_cons_of_mem _ (List.mem_append_right _ h)) (List.mem_of_getElem? (i := 2) rfl) rfl rfl (by decide) rfl rfl dX4_mostIn_103 ?_
                  refine g_imul dX4_mostIn_106 ?_
                  refine g_iload_n 1 dX4_mostIn_107 rfl rfl ?_
                  refine g_iload_n 2 dX4_mostIn_108 rfl rfl ?_
                  refine g_imul dX4_mostIn_109 ?_
                  have hp1 := prod3 (u := v2 + 1) (a := pa) (b := pb) (by omega) (by omega) (by omega)
                  have hp2 := wh_144 (w := w) (h := h) (by omega) (by omega)
                  have hp3 := Int.mul_nonneg (show 0 ≤ w by omega) (show 0 ≤ h by omega)
                  have hS : isS pa pb (tb mo) w h v2 := kI_S (show k = w by omega) (show j = h by omega) hK1 hK2
                  refine g_icmp_le (tgt := 115) (by unfold R32; omega) (by unfold R32; omega) dX4_mostIn_110 rfl (fun c_13 => ?_) (fun c_13 => ?_)
                  · refine g_iload_n 3 dX4_mostIn_115 rfl rfl ?_
                    refine g_aload_n 0 dX4_mostIn_116 rfl rfl ?_
                    refine g_iload_n 1 dX4_mostIn_117 rfl rfl ?_
                    refine g_iload_n 2 dX4_mostIn_118 rfl rfl ?_
                    refine g_callV_i (n := 2) (As := [.int (iI w), .int (iI h)]) (wr := []) (C := RX4) [.int (iI v2)] (c_X4_mostByPinwheel E p0 w1 w2 w3 w4 mk px py pa pb nw np nq mo w h (by omega) (by omega) (by omega) (by exact hmo)) [0, 1] [] 0 rfl rfl gX4_mostIn_X4_mostByPinwheel rfl ⟨rfl, by decide +kernel⟩ ⟨by decide, by decide⟩ rfl rfl rfl rfl rfl (by decide) rfl (by decide) (by decide) (fun _ h => absurd h List.not_mem_nil) dX4_mostIn_119 rfl (Nat.le_of_ble_eq_true rfl) ⟨by decide, by decide⟩ (fun r u p_14 => ?_)
                    obtain ⟨vw, fw, rfl, rfl⟩ := p_14
                    obtain ⟨fw1, fw2⟩ := fw
                    refine g_mmax (by unfold R32; omega) (by unfold R32; omega) (List.mem_of_getElem? (i := 3) rfl) (List.mem_of_getElem? (i := 4) rfl) (List.mem_of_getElem? (i := 5) rfl) (List.mem_of_getElem? (i := 6) rfl) (by decide) (Nat.le_of_ble_eq_true rfl) (by decide) dX4_mostIn_122 ?_
                    exact g_iret hRet dX4_mostIn_125 rfl ⟨(max v2 vw), (by exact isB_max ⟨by omega, by omega⟩ (by omega) hG hS fw1), rfl, rfl⟩
                  · refine g_iload_n 3 dX4_mostIn_113 rfl rfl ?_
                    exact g_iret hRet dX4_mostIn_114 rfl ⟨v2, (by exact isB_prune hab.1.1 hab.2.1 hG (by omega) hS), rfl, rfl⟩
                · refine g_iload_n 3 dX4_mostIn_75 rfl rfl ?_
                  refine g_aload_n 0 dX4_mostIn_76 rfl rfl ?_
                  refine g_iload_n 1 dX4_mostIn_77 rfl rfl ?_
                  refine g_iload_n 2 dX4_mostIn_78 rfl rfl ?_
                  refine g_iload 4 dX4_mostIn_79 rfl ?_
                  refine g_callV_i (n := 3) (As := [.int (iI w), .int (iI h), .int (iI j)]) (wr := []) (C := RX4) [.int (iI v2)] (c_X4_byLevelCut E p0 w1 w2 w3 w4 mk px py pa pb nw np nq mo w h j (by omega) (by omega) (by omega)) [0, 1] [] 0 rfl rfl gX4_mostIn_X4_byLevelCut rfl ⟨rfl, by decide +kernel⟩ ⟨by decide, by decide⟩ rfl rfl rfl rfl rfl (by decide) rfl (by decide) (by decide) (fun _ h => absurd h List.not_mem_nil) dX4_mostIn_81 rfl (Nat.le_of_ble_eq_true rfl) ⟨by decide, by decide⟩ (fun r u p_15 => ?_)
                  obtain ⟨rfl, rfl⟩ := p_15
                  have hcl := cL_b hmo w h j
                  refine g_mmax (by unfold R32; omega) (by unfold R32; omega) (List.mem_of_getElem? (i := 3) rfl) (List.mem_of_getElem? (i := 4) rfl) (List.mem_of_getElem? (i := 5) rfl) (List.mem_of_getElem? (i := 6) rfl) (by decide) (Nat.le_of_ble_eq_true rfl) (by decide) dX4_mostIn_84 ?_
                  refine g_istore_n (lv1 := [(3, .int (iI (max v2 (cL (tb mo) w h j)))), (0, .ref p0), (1, .int (iI w)), (2, .int (iI h)), (4, .int (iI j))]) dX4_mostIn_87 rfl (by decide) rfl ?_
                  refine g_iinc (lv1 := [(4, .int (iI (j + 1))), (3, .int (iI (max v2 (cL (tb mo) w h j)))), (0, .ref p0), (1, .int (iI w)), (2, .int (iI h))]) 4 dX4_mostIn_88 rfl (by decide) rfl ?_
                  refine g_goto (tgt := 69) dX4_mostIn_91 rfl ?_
                  refine g_lv (lv1 := [(0, .ref p0), (1, .int (iI w)), (2, .int (iI h)), (3, .int (iI (max v2 (cL (tb mo) w h j)))), (4, .int (iI (j + 1)))]) [2, 3, 4, 1, 0] rfl ?_
                  exact ih69 (j + 1) (max v2 (cL (tb mo) w h j)) (by omega) (by omega) (by exact kI_s (by omega) hK2) (by omega)
            exact L69 _ 1 v1 (by omega) (by omega) (by exact kI_1 _ _) (lt_nn _)
          · refine g_iload_n 3 dX4_mostIn_47 rfl rfl ?_
            refine g_aload_n 0 dX4_mostIn_48 rfl rfl ?_
            refine g_iload_n 1 dX4_mostIn_49 rfl rfl ?_
            refine g_iload_n 2 dX4_mostIn_50 rfl rfl ?_
            refine g_iload 4 dX4_mostIn_51 rfl ?_
            refine g_callV_i (n := 3) (As := [.int (iI w), .int (iI h), .int (iI k)]) (wr := []) (C := RX4) [.int (iI v1)] (c_X4_byUprightCut E p0 w1 w2 w3 w4 mk px py pa pb nw np nq mo w h k (by omega) (by omega) (by omega)) [0, 1] [] 0 rfl rfl gX4_mostIn_X4_byUprightCut rfl ⟨rfl, by decide +kernel⟩ ⟨by decide, by decide⟩ rfl rfl rfl rfl rfl (by decide) rfl (by decide) (by decide) (fun _ h => absurd h List.not_mem_nil) dX4_mostIn_53 rfl (Nat.le_of_ble_eq_true rfl) ⟨by decide, by decide⟩ (fun r u p_16 => ?_)
            obtain ⟨rfl, rfl⟩ := p_16
            have hcu := cU_b hmo w h k
            refine g_mmax (by unfold R32; omega) (by unfold R32; omega) (List.mem_of_getElem? (i := 3) rfl) (List.mem_of_getElem? (i := 4) rfl) (List.mem_of_getElem? (i := 5) rfl) (List.mem_of_getElem? (i := 6) rfl) (by decide) (Nat.le_of_ble_eq_true rfl) (by decide) dX4_mostIn_56 ?_
            refine g_istore_n (lv1 := [(3, .int (iI (max v1 (cU (tb mo) w h k)))), (0, .ref p0), (1, .int (iI w)), (2, .int (iI h)), (4, .int (iI k))]) dX4_mostIn_59 rfl (by decide) rfl ?_
            refine g_iinc (lv1 := [(4, .int (iI (k + 1))), (3, .int (iI (max v1 (cU (tb mo) w h k)))), (0, .ref p0), (1, .int (iI w)), (2, .int (iI h))]) 4 dX4_mostIn_60 rfl (by decide) rfl ?_
            refine g_goto (tgt := 41) dX4_mostIn_63 rfl ?_
            refine g_lv (lv1 := [(0, .ref p0), (1, .int (iI w)), (2, .int (iI h)), (3, .int (iI (max v1 (cU (tb mo) w h k)))), (4, .int (iI (k + 1)))]) [2, 3, 4, 1, 0] rfl ?_
            exact ih41 (k + 1) (max v1 (cU (tb mo) w h k)) (by omega) (by omega) (by exact kI_s (by omega) hK1) (by omega)
      exact L41 _ 1 (bs pa pb w h) (by omega) (by omega) (by exact kI_1 _ _) (lt_nn _)
    · refine g_iconst dX4_mostIn_36 ?_
      have hbs := bs_01 pa pb w h
      refine g_top (y := iI (bs pa pb w h)) (congrArg iI (by unfold bs; first | (rw [if_pos (by omega)]; done) | (rw [if_neg (by omega)]; done))) ?_
      refine g_istore_n (lv1 := [(3, .int (iI (bs pa pb w h))), (0, .ref p0), (1, .int (iI w)), (2, .int (iI h))]) dX4_mostIn_37 rfl (by decide) rfl ?_
      refine g_iconst dX4_mostIn_38 ?_
      refine g_istore (lv1 := [(4, .int (iI 1)), (3, .int (iI (bs pa pb w h))), (0, .ref p0), (1, .int (iI w)), (2, .int (iI h))]) dX4_mostIn_39 (by decide) rfl ?_
      refine g_lv (lv1 := [(0, .ref p0), (1, .int (iI w)), (2, .int (iI h)), (3, .int (iI (bs pa pb w h))), (4, .int (iI 1))]) [2, 3, 4, 1, 0] rfl ?_
      have L41 : ∀ (nn : Nat) (k : Int) (v1 : Int) (hk : 1 ≤ k ∧ k ≤ w) (hv1 : 0 ≤ v1 ∧ v1 ≤ 720) (hK1 : kI (bs pa pb w h) (cU (tb mo) w h) k v1) (hm : w - k < (nn : Int)), G X ({ frames := 3, cells := 0, slots := 0, locals := 75 } : Room) cX4_mostIn 5 RX4 wsX4_mostIn E [] 0 0 [(p0, oo 4 [.int (iI mk), .int (iI px), .int (iI py), .int (iI pa), .int (iI pb), .int (iI nw), .ref w1, .ref w2, .int (iI np), .ref w3, .int (iI nq), .ref w4]), (w1, aI E 169 mo)] [(0, .ref p0), (1, .int (iI w)), (2, .int (iI h)), (3, .int (iI v1)), (4, .int (iI k))] 41 [] := by
        intro nn
        induction nn with
        | zero => intro k v1 hk hv1 hK1 hm; exfalso; omega
        | succ nn ih41 =>
          intro k v1 hk hv1 hK1 hm
          refine g_iload 4 dX4_mostIn_41 rfl ?_
          refine g_iload_n 1 dX4_mostIn_43 rfl rfl ?_
          refine g_icmp_ge (tgt := 66) (by unfold R32; omega) (by unfold R32; omega) dX4_mostIn_44 rfl (fun c_17 => ?_) (fun c_17 => ?_)
          · refine g_iconst dX4_mostIn_66 ?_
            refine g_istore (lv1 := [(4, .int (iI 1)), (0, .ref p0), (1, .int (iI w)), (2, .int (iI h)), (3, .int (iI v1))]) dX4_mostIn_67 (by decide) rfl ?_
            refine g_lv (lv1 := [(0, .ref p0), (1, .int (iI w)), (2, .int (iI h)), (3, .int (iI v1)), (4, .int (iI 1))]) [1, 2, 3, 4, 0] rfl ?_
            have L69 : ∀ (nn : Nat) (j : Int) (v2 : Int) (hj : 1 ≤ j ∧ j ≤ h) (hv2 : 0 ≤ v2 ∧ v2 ≤ 720) (hK2 : kI v1 (cL (tb mo) w h) j v2) (hm : h - j < (nn : Int)), G X ({ frames := 3, cells := 0, slots := 0, locals := 75 } : Room) cX4_mostIn 5 RX4 wsX4_mostIn E [] 0 0 [(p0, oo 4 [.int (iI mk), .int (iI px), .int (iI py), .int (iI pa), .int (iI pb), .int (iI nw), .ref w1, .ref w2, .int (iI np), .ref w3, .int (iI nq), .ref w4]), (w1, aI E 169 mo)] [(0, .ref p0), (1, .int (iI w)), (2, .int (iI h)), (3, .int (iI v2)), (4, .int (iI j))] 69 [] := by
              intro nn
              induction nn with
              | zero => intro j v2 hj hv2 hK2 hm; exfalso; omega
              | succ nn ih69 =>
                intro j v2 hj hv2 hK2 hm
                refine g_iload 4 dX4_mostIn_69 rfl ?_
                refine g_iload_n 2 dX4_mostIn_71 rfl rfl ?_
                refine g_icmp_ge (tgt := 94) (by unfold R32; omega) (by unfold R32; omega) dX4_mostIn_72 rfl (fun c_18 => ?_) (fun c_18 => ?_)
                · refine g_iload_n 3 dX4_mostIn_94 rfl rfl ?_
                  refine g_iconst dX4_mostIn_95 ?_
                  refine g_iadd dX4_mostIn_96 ?_
                  refine g_aload_n 0 dX4_mostIn_97 rfl rfl ?_
                  refine g_get (C := RX4) (T := TX4) (N := 12) 0 3 (fun _ h => List.mem_cons_of_mem _ (List.mem_append_right _ h)) (List.mem_of_getElem? (i := 1) rfl) rfl rfl (by decide) rfl rfl dX4_mostIn_98 ?_
                  refine g_imul dX4_mostIn_101 ?_
                  refine g_aload_n 0 dX4_mostIn_102 rfl rfl ?_
                  refine g_get (C := RX4) (T := TX4) (N := 12) 0 4 (fun _ h => List.mem_cons_of_mem _ (List.mem_append_right _ h)) (List.mem_of_getElem? (i := 2) rfl) rfl rfl (by decide) rfl rfl dX4_mostIn_103 ?_
                  refine g_imul dX4_mostIn_106 ?_
                  refine g_iload_n 1 dX4_mostIn_107 rfl rfl ?_
                  refine g_iload_n 2 dX4_mostIn_108 rfl rfl ?_
                  refine g_imul dX4_mostIn_109 ?_
                  have hp1 := prod3 (u := v2 + 1) (a := pa) (b := pb) (by omega) (by omega) (by omega)
                  have hp2 := wh_144 (w := w) (h := h) (by omega) (by omega)
                  have hp3 := Int.mul_nonneg (show 0 ≤ w by omega) (show 0 ≤ h by omega)
                  have hS : isS pa pb (tb mo) w h v2 := kI_S (show k = w by omega) (show j = h by omega) hK1 hK2
                  refine g_icmp_le (tgt := 115) (by unfold R32; omega) (by unfold R32; omega) dX4_mostIn_110 rfl (fun c_19 => ?_) (fun c_19 => ?_)
                  · refine g_iload_n 3 dX4_mostIn_115 rfl rfl ?_
                    refine g_aload_n 0 dX4_mostIn_116 rfl rfl ?_
                    refine g_iload_n 1 dX4_mostIn_117 rfl rfl ?_
                    refine g_iload_n 2 dX4_mostIn_118 rfl rfl ?_
                    refine g_callV_i (n := 2) (As := [.int (iI w), .int (iI h)]) (wr := []) (C := RX4) [.int (iI v2)] (c_X4_mostByPinwheel E p0 w1 w2 w3 w4 mk px py pa pb nw np nq mo w h (by omega) (by omega) (by omega) (by exact hmo)) [0, 1] [] 0 rfl rfl gX4_mostIn_X4_mostByPinwheel rfl ⟨rfl, by decide +kernel⟩ ⟨by decide, by decide⟩ rfl rfl rfl rfl rfl (by decide) rfl (by decide) (by decide) (fun _ h => absurd h List.not_mem_nil) dX4_mostIn_119 rfl (Nat.le_of_ble_eq_true rfl) ⟨by decide, by decide⟩ (fun r u p_20 => ?_)
                    obtain ⟨vw, fw, rfl, rfl⟩ := p_20
                    obtain ⟨fw1, fw2⟩ := fw
                    refine g_mmax (by unfold R32; omega) (by unfold R32; omega) (List.mem_of_getElem? (i := 3) rfl) (List.mem_of_getElem? (i := 4) rfl) (List.mem_of_getElem? (i := 5) rfl) (List.mem_of_getElem? (i := 6) rfl) (by decide) (Nat.le_of_ble_eq_true rfl) (by decide) dX4_mostIn_122 ?_
                    exact g_iret hRet dX4_mostIn_125 rfl ⟨(max v2 vw), (by exact isB_max ⟨by omega, by omega⟩ (by omega) hG hS fw1), rfl, rfl⟩
                  · refine g_iload_n 3 dX4_mostIn_113 rfl rfl ?_
                    exact g_iret hRet dX4_mostIn_114 rfl ⟨v2, (by exact isB_prune hab.1.1 hab.2.1 hG (by omega) hS), rfl, rfl⟩
                · refine g_iload_n 3 dX4_mostIn_75 rfl rfl ?_
                  refine g_aload_n 0 dX4_mostIn_76 rfl rfl ?_
                  refine g_iload_n 1 dX4_mostIn_77 rfl rfl ?_
                  refine g_iload_n 2 dX4_mostIn_78 rfl rfl ?_
                  refine g_iload 4 dX4_mostIn_79 rfl ?_
                  refine g_callV_i (n := 3) (As := [.int (iI w), .int (iI h), .int (iI j)]) (wr := []) (C := RX4) [.int (iI v2)] (c_X4_byLevelCut E p0 w1 w2 w3 w4 mk px py pa pb nw np nq mo w h j (by omega) (by omega) (by omega)) [0, 1] [] 0 rfl rfl gX4_mostIn_X4_byLevelCut rfl ⟨rfl, by decide +kernel⟩ ⟨by decide, by decide⟩ rfl rfl rfl rfl rfl (by decide) rfl (by decide) (by decide) (fun _ h => absurd h List.not_mem_nil) dX4_mostIn_81 rfl (Nat.le_of_ble_eq_true rfl) ⟨by decide, by decide⟩ (fun r u p_21 => ?_)
                  obtain ⟨rfl, rfl⟩ := p_21
                  have hcl := cL_b hmo w h j
                  refine g_mmax (by unfold R32; omega) (by unfold R32; omega) (List.mem_of_getElem? (i := 3) rfl) (List.mem_of_getElem? (i := 4) rfl) (List.mem_of_getElem? (i := 5) rfl) (List.mem_of_getElem? (i := 6) rfl) (by decide) (Nat.le_of_ble_eq_true rfl) (by decide) dX4_mostIn_84 ?_
                  refine g_istore_n (lv1 := [(3, .int (iI (max v2 (cL (tb mo) w h j)))), (0, .ref p0), (1, .int (iI w)), (2, .int (iI h)), (4, .int (iI j))]) dX4_mostIn_87 rfl (by decide) rfl ?_
                  refine g_iinc (lv1 := [(4, .int (iI (j + 1))), (3, .int (iI (max v2 (cL (tb mo) w h j)))), (0, .ref p0), (1, .int (iI w)), (2, .int (iI h))]) 4 dX4_mostIn_88 rfl (by decide) rfl ?_
                  refine g_goto (tgt := 69) dX4_mostIn_91 rfl ?_
                  refine g_lv (lv1 := [(0, .ref p0), (1, .int (iI w)), (2, .int (iI h)), (3, .int (iI (max v2 (cL (tb mo) w h j)))), (4, .int (iI (j + 1)))]) [2, 3, 4, 1, 0] rfl ?_
                  exact ih69 (j + 1) (max v2 (cL (tb mo) w h j)) (by omega) (by omega) (by exact kI_s (by omega) hK2) (by omega)
            exact L69 _ 1 v1 (by omega) (by omega) (by exact kI_1 _ _) (lt_nn _)
          · refine g_iload_n 3 dX4_mostIn_47 rfl rfl ?_
            refine g_aload_n 0 dX4_mostIn_48 rfl rfl ?_
            refine g_iload_n 1 dX4_mostIn_49 rfl rfl ?_
            refine g_iload_n 2 dX4_mostIn_50 rfl rfl ?_
            refine g_iload 4 dX4_mostIn_51 rfl ?_
            refine g_callV_i (n := 3) (As := [.int (iI w), .int (iI h), .int (iI k)]) (wr := []) (C := RX4) [.int (iI v1)] (c_X4_byUprightCut E p0 w1 w2 w3 w4 mk px py pa pb nw np nq mo w h k (by omega) (by omega) (by omega)) [0, 1] [] 0 rfl rfl gX4_mostIn_X4_byUprightCut rfl ⟨rfl, by decide +kernel⟩ ⟨by decide, by decide⟩ rfl rfl rfl rfl rfl (by decide) rfl (by decide) (by decide) (fun _ h => absurd h List.not_mem_nil) dX4_mostIn_53 rfl (Nat.le_of_ble_eq_true rfl) ⟨by decide, by decide⟩ (fun r u p_22 => ?_)
            obtain ⟨rfl, rfl⟩ := p_22
            have hcu := cU_b hmo w h k
            refine g_mmax (by unfold R32; omega) (by unfold R32; omega) (List.mem_of_getElem? (i := 3) rfl) (List.mem_of_getElem? (i := 4) rfl) (List.mem_of_getElem? (i := 5) rfl) (List.mem_of_getElem? (i := 6) rfl) (by decide) (Nat.le_of_ble_eq_true rfl) (by decide) dX4_mostIn_56 ?_
            refine g_istore_n (lv1 := [(3, .int (iI (max v1 (cU (tb mo) w h k)))), (0, .ref p0), (1, .int (iI w)), (2, .int (iI h)), (4, .int (iI k))]) dX4_mostIn_59 rfl (by decide) rfl ?_
            refine g_iinc (lv1 := [(4, .int (iI (k + 1))), (3, .int (iI (max v1 (cU (tb mo) w h k)))), (0, .ref p0), (1, .int (iI w)), (2, .int (iI h))]) 4 dX4_mostIn_60 rfl (by decide) rfl ?_
            refine g_goto (tgt := 41) dX4_mostIn_63 rfl ?_
            refine g_lv (lv1 := [(0, .ref p0), (1, .int (iI w)), (2, .int (iI h)), (3, .int (iI (max v1 (cU (tb mo) w h k)))), (4, .int (iI (k + 1)))]) [2, 3, 4, 1, 0] rfl ?_
            exact ih41 (k + 1) (max v1 (cU (tb mo) w h k)) (by omega) (by omega) (by exact kI_s (by omega) hK1) (by omega)
      exact L41 _ 1 (bs pa pb w h) (by omega) (by omega) (by exact kI_1 _ _) (lt_nn _)

set_option maxHeartbeats 4000000 in
set_option maxRecDepth 100000 in
theorem c_X4_findMost (E : Ev) (p0 : Nat) (w1 : Nat) (w2 : Nat) (w3 : Nat) (w4 : Nat) (mk : Int) (px : Int) (py : Int) (pa : Int) (pb : Int) (nw : Int) (np : Int) (nq : Int) (mo : Int → Int) (hxy : (1 ≤ px ∧ px ≤ 12) ∧ 1 ≤ py ∧ py ≤ 12) (hab : (1 ≤ pa ∧ pa ≤ 12) ∧ 1 ≤ pb ∧ pb ≤ 12) (hn : 1 ≤ nw ∧ nw ≤ pa ∧ nw ≤ pb) (hmo : ∀ k, 0 ≤ mo k ∧ mo k ≤ 144) : MV yX4_findMost wsX4_findMost ({ frames := 4, cells := 0, slots := 0, locals := 99 } : Room) E [] 0 0 [.ref p0] [(p0, oo 4 [.int (iI mk), .int (iI px), .int (iI py), .int (iI pa), .int (iI pb), .int (iI nw), .ref w1, .ref w2, .int (iI np), .ref w3, .int (iI nq), .ref w4]), (w1, aI E 169 mo)] (fun u => ∃ (mo' : Int → Int), gT pa pb (tb mo') px py ∧ (∀ k, 0 ≤ mo' k ∧ mo' k ≤ 144) ∧ u = [(p0, oo 4 [.int (iI mk), .int (iI px), .int (iI py), .int (iI pa), .int (iI pb), .int (iI nw), .ref w1, .ref w2, .int (iI np), .ref w3, .int (iI nq), .ref w4]), (w1, aI E 169 mo')]) := by
  refine MV.of (cc := cX4_findMost) (maxL := 3) (own := RX4) (by decide) rfl rfl rfl (Nat.le_of_ble_eq_true rfl) [(0, .ref p0)] rfl ?_
  intro X hin2 hRet
  refine g_iconst dX4_findMost_0 ?_
  refine g_istore_n (lv1 := [(1, .int (iI 1)), (0, .ref p0)]) dX4_findMost_1 rfl (by decide) rfl ?_
  refine g_lv (lv1 := [(0, .ref p0), (1, .int (iI 1))]) [1, 0] rfl ?_
  have L2 : ∀ (nn : Nat) (w : Int) (f : Int → Int) (hw : 1 ≤ w ∧ w ≤ 13) (hf : ∀ k, 0 ≤ f k ∧ f k ≤ 144) (hT : pT pa pb (tb f) px py w 1) (hm : 14 - w < (nn : Int)), G X ({ frames := 4, cells := 0, slots := 0, locals := 99 } : Room) cX4_findMost 3 RX4 wsX4_findMost E [] 0 0 [(p0, oo 4 [.int (iI mk), .int (iI px), .int (iI py), .int (iI pa), .int (iI pb), .int (iI nw), .ref w1, .ref w2, .int (iI np), .ref w3, .int (iI nq), .ref w4]), (w1, aI E 169 f)] [(0, .ref p0), (1, .int (iI w))] 2 [] := by
    intro nn
    induction nn with
    | zero => intro w f hw hf hT hm; exfalso; omega
    | succ nn ih2 =>
      intro w f hw hf hT hm
      refine g_iload_n 1 dX4_findMost_2 rfl rfl ?_
      refine g_aload_n 0 dX4_findMost_3 rfl rfl ?_
      refine g_get (C := RX4) (T := TX4) (N := 12) 0 1 (fun _ h => List.mem_cons_of_mem _ (List.mem_append_right _ h)) (List.mem_of_getElem? (i := 1) rfl) rfl rfl (by decide) rfl rfl dX4_findMost_4 ?_
      refine g_icmp_gt (tgt := 49) (by unfold R32; omega) (by unfold R32; omega) dX4_findMost_7 rfl (fun c_1 => ?_) (fun c_1 => ?_)
      · exact g_vret hRet dX4_findMost_49 ⟨f, (by exact pT_T (by omega) hT), (by exact hf), rfl⟩
      · refine g_iconst dX4_findMost_10 ?_
        refine g_istore_n (lv1 := [(2, .int (iI 1)), (0, .ref p0), (1, .int (iI w))]) dX4_findMost_11 rfl (by decide) rfl ?_
        refine g_lv (lv1 := [(0, .ref p0), (1, .int (iI w)), (2, .int (iI 1))]) [1, 2, 0] rfl ?_
        have L12 : ∀ (nn : Nat) (h : Int) (g : Int → Int) (hh : 1 ≤ h ∧ h ≤ 13) (hg : ∀ k, 0 ≤ g k ∧ g k ≤ 144) (hT2 : pT pa pb (tb g) px py w h) (hm : 14 - h < (nn : Int)), G X ({ frames := 4, cells := 0, slots := 0, locals := 99 } : Room) cX4_findMost 3 RX4 wsX4_findMost E [] 0 0 [(p0, oo 4 [.int (iI mk), .int (iI px), .int (iI py), .int (iI pa), .int (iI pb), .int (iI nw), .ref w1, .ref w2, .int (iI np), .ref w3, .int (iI nq), .ref w4]), (w1, aI E 169 g)] [(0, .ref p0), (1, .int (iI w)), (2, .int (iI h))] 12 [] := by
          intro nn
          induction nn with
          | zero => intro h g hh hg hT2 hm; exfalso; omega
          | succ nn ih12 =>
            intro h g hh hg hT2 hm
            refine g_iload_n 2 dX4_findMost_12 rfl rfl ?_
            refine g_aload_n 0 dX4_findMost_13 rfl rfl ?_
            refine g_get (C := RX4) (T := TX4) (N := 12) 0 2 (fun _ h => List.mem_cons_of_mem _ (List.mem_append_right _ h)) (List.mem_of_getElem? (i := 2) rfl) rfl rfl (by decide) rfl rfl dX4_findMost_14 ?_
            refine g_icmp_gt (tgt := 43) (by unfold R32; omega) (by unfold R32; omega) dX4_findMost_17 rfl (fun c_2 => ?_) (fun c_2 => ?_)
            · refine g_iinc (lv1 := [(1, .int (iI (w + 1))), (0, .ref p0), (2, .int (iI h))]) 1 dX4_findMost_43 rfl (by decide) rfl ?_
              refine g_goto (tgt := 2) dX4_findMost_46 rfl ?_
              refine g_lv (lv1 := [(0, .ref p0), (1, .int (iI (w + 1)))]) [1, 0] rfl ?_
              exact ih2 (w + 1) g (by omega) (by exact hg) (by exact pT_r (by omega) hT2) (by omega)
            · refine g_aload_n 0 dX4_findMost_20 rfl rfl ?_
              refine g_get (C := RX4) (T := TX4) (N := 12) 0 6 (fun _ h => List.mem_cons_of_mem _ (List.mem_append_right _ h)) (List.mem_of_getElem? (i := 3) rfl) rfl rfl (by decide) rfl rfl dX4_findMost_21 ?_
              refine g_iload_n 1 dX4_findMost_24 rfl rfl ?_
              refine g_bipush dX4_findMost_25 rfl ?_
              refine g_imul dX4_findMost_27 ?_
              refine g_iload_n 2 dX4_findMost_28 rfl rfl ?_
              refine g_iadd dX4_findMost_29 ?_
              refine g_aload_n 0 dX4_findMost_30 rfl rfl ?_
              refine g_iload_n 1 dX4_findMost_31 rfl rfl ?_
              refine g_iload_n 2 dX4_findMost_32 rfl rfl ?_
              refine g_callV_i (n := 2) (As := [.int (iI w), .int (iI h)]) (wr := []) (C := RX4) [.int (iI ((w * 13) + h)), .ref w1] (c_X4_mostIn E p0 w1 w2 w3 w4 mk px py pa pb nw np nq g w h (by omega) (by omega) (by omega) (by omega) (by exact hg) (by exact pT_g hT2 (by omega) (by omega))) [0, 1] [] 0 rfl rfl gX4_findMost_X4_mostIn rfl ⟨rfl, by decide +kernel⟩ ⟨by decide, by decide⟩ rfl rfl rfl rfl rfl (by decide) rfl (by decide) (by decide) (fun _ h => absurd h List.not_mem_nil) dX4_findMost_33 rfl (Nat.le_of_ble_eq_true rfl) ⟨by decide, by decide⟩ (fun r u p_3 => ?_)
              obtain ⟨vm, fm, rfl, rfl⟩ := p_3
              have hvm := isB_144 hab.1.1 hab.2.1 (by omega) (by omega) fm (pT_g hT2 (by omega) (by omega))
              refine g_iast (ws1 := [(p0, oo 4 [.int (iI mk), .int (iI px), .int (iI py), .int (iI pa), .int (iI pb), .int (iI nw), .ref w1, .ref w2, .int (iI np), .ref w3, .int (iI nq), .ref w4]), (w1, aI E 169 (up g ((w * 13) + h) vm))]) 1 dX4_findMost_36 rfl rfl (by decide) (by omega) (by omega) ?_
              refine g_iinc (lv1 := [(2, .int (iI (h + 1))), (0, .ref p0), (1, .int (iI w))]) 2 dX4_findMost_37 rfl (by decide) rfl ?_
              refine g_goto (tgt := 12) dX4_findMost_40 rfl ?_
              refine g_lv (lv1 := [(0, .ref p0), (1, .int (iI w)), (2, .int (iI (h + 1)))]) [1, 2, 0] rfl ?_
              exact ih12 (h + 1) (up g ((w * 13) + h) vm) (by omega) (by intro k2; have q9 := hg k2; unfold up; split <;> omega) (by exact pT_s (by omega) hT2 (by omega) (by omega) (by omega) (by omega) fm) (by omega)
        exact L12 _ 1 f (by omega) (by exact hf) (by exact hT) (lt_nn _)
  exact L2 _ 1 mo (by omega) (by exact hmo) (by exact pT_0) (lt_nn _)

set_option maxHeartbeats 4000000 in
set_option maxRecDepth 100000 in
theorem c_X4_putPart (E : Ev) (p0 : Nat) (w1 : Nat) (w2 : Nat) (w3 : Nat) (w4 : Nat) (mk : Int) (px : Int) (py : Int) (pa : Int) (pb : Int) (nw : Int) (np : Int) (nq : Int) (zt : Int → Int) (l : Int) (lw : Int) (w : Int) (h : Int) (hq : 0 ≤ nq ∧ nq < 144) : MV yX4_putPart wsX4_putPart ({ frames := 0, cells := 0, slots := 0, locals := 0 } : Room) E [] 0 0 [.ref p0, .int (iI l), .int (iI lw), .int (iI w), .int (iI h)] [(p0, oo 4 [.int (iI mk), .int (iI px), .int (iI py), .int (iI pa), .int (iI pb), .int (iI nw), .ref w1, .ref w2, .int (iI np), .ref w3, .int (iI nq), .ref w4]), (w3, aI E 576 zt)] (fun u => u = [(p0, oo 4 [.int (iI mk), .int (iI px), .int (iI py), .int (iI pa), .int (iI pb), .int (iI nw), .ref w1, .ref w2, .int (iI np), .ref w3, .int (iI (nq + 1)), .ref w4]), (w3, aI E 576 (up (up (up (up zt (4 * nq) l) (4 * nq + 1) lw) (4 * nq + 2) w) (4 * nq + 3) h))]) := by
  refine MV.of (cc := cX4_putPart) (maxL := 6) (own := RX4) (by decide) rfl rfl rfl (Nat.le_of_ble_eq_true rfl) [(0, .ref p0), (1, .int (iI l)), (2, .int (iI lw)), (3, .int (iI w)), (4, .int (iI h))] rfl ?_
  intro X hin2 hRet
  refine g_aload_n 0 dX4_putPart_0 rfl rfl ?_
  refine g_get (C := RX4) (T := TX4) (N := 12) 0 10 (fun _ h => List.mem_cons_of_mem _ (List.mem_append_right _ h)) (List.mem_of_getElem? (i := 1) rfl) rfl rfl (by decide) rfl rfl dX4_putPart_1 ?_
  refine g_sipush dX4_putPart_4 rfl ?_
  refine g_icmp_lt (tgt := 11) (by unfold R32; omega) (by unfold R32; omega) dX4_putPart_7 rfl (fun c_1 => ?_) (fun c_1 => ?_)
  · refine g_iconst dX4_putPart_11 ?_
    refine g_aload_n 0 dX4_putPart_12 rfl rfl ?_
    refine g_get (C := RX4) (T := TX4) (N := 12) 0 10 (fun _ h => List.mem_cons_of_mem _ (List.mem_append_right _ h)) (List.mem_of_getElem? (i := 1) rfl) rfl rfl (by decide) rfl rfl dX4_putPart_13 ?_
    refine g_imul dX4_putPart_16 ?_
    refine g_istore (lv1 := [(5, .int (iI (4 * nq))), (0, .ref p0), (1, .int (iI l)), (2, .int (iI lw)), (3, .int (iI w)), (4, .int (iI h))]) dX4_putPart_17 (by decide) rfl ?_
    refine g_aload_n 1 dX4_putPart_19 rfl rfl ?_
    refine g_get (C := RX4) (T := TX4) (N := 12) 0 9 (fun _ h => List.mem_cons_of_mem _ (List.mem_append_right _ h)) (List.mem_of_getElem? (i := 2) rfl) rfl rfl (by decide) rfl rfl dX4_putPart_20 ?_
    refine g_iload 0 dX4_putPart_23 rfl ?_
    refine g_iload_n 2 dX4_putPart_25 rfl rfl ?_
    refine g_iast (ws1 := [(p0, oo 4 [.int (iI mk), .int (iI px), .int (iI py), .int (iI pa), .int (iI pb), .int (iI nw), .ref w1, .ref w2, .int (iI np), .ref w3, .int (iI nq), .ref w4]), (w3, aI E 576 (up zt (4 * nq) l))]) 1 dX4_putPart_26 rfl rfl (by decide) (by omega) (by omega) ?_
    refine g_aload_n 1 dX4_putPart_27 rfl rfl ?_
    refine g_get (C := RX4) (T := TX4) (N := 12) 0 9 (fun _ h => List.mem_cons_of_mem _ (List.mem_append_right _ h)) (List.mem_of_getElem? (i := 2) rfl) rfl rfl (by decide) rfl rfl dX4_putPart_28 ?_
    refine g_iload 0 dX4_putPart_31 rfl ?_
    refine g_iconst dX4_putPart_33 ?_
    refine g_iadd dX4_putPart_34 ?_
    refine g_iload_n 3 dX4_putPart_35 rfl rfl ?_
    refine g_iast (ws1 := [(p0, oo 4 [.int (iI mk), .int (iI px), .int (iI py), .int (iI pa), .int (iI pb), .int (iI nw), .ref w1, .ref w2, .int (iI np), .ref w3, .int (iI nq), .ref w4]), (w3, aI E 576 (up (up zt (4 * nq) l) ((4 * nq) + 1) lw))]) 1 dX4_putPart_36 rfl rfl (by decide) (by omega) (by omega) ?_
    refine g_aload_n 1 dX4_putPart_37 rfl rfl ?_
    refine g_get (C := RX4) (T := TX4) (N := 12) 0 9 (fun _ h => List.mem_cons_of_mem _ (List.mem_append_right _ h)) (List.mem_of_getElem? (i := 2) rfl) rfl rfl (by decide) rfl rfl dX4_putPart_38 ?_
    refine g_iload 0 dX4_putPart_41 rfl ?_
    refine g_iconst dX4_putPart_43 ?_
    refine g_iadd dX4_putPart_44 ?_
    refine g_iload_n 4 dX4_putPart_45 rfl rfl ?_
    refine g_iast (ws1 := [(p0, oo 4 [.int (iI mk), .int (iI px), .int (iI py), .int (iI pa), .int (iI pb), .int (iI nw), .ref w1, .ref w2, .int (iI np), .ref w3, .int (iI nq), .ref w4]), (w3, aI E 576 (up (up (up zt (4 * nq) l) ((4 * nq) + 1) lw) ((4 * nq) + 2) w))]) 1 dX4_putPart_46 rfl rfl (by decide) (by omega) (by omega) ?_
    refine g_aload_n 1 dX4_putPart_47 rfl rfl ?_
    refine g_get (C := RX4) (T := TX4) (N := 12) 0 9 (fun _ h => List.mem_cons_of_mem _ (List.mem_append_right _ h)) (List.mem_of_getElem? (i := 2) rfl) rfl rfl (by decide) rfl rfl dX4_putPart_48 ?_
    refine g_iload 0 dX4_putPart_51 rfl ?_
    refine g_iconst dX4_putPart_53 ?_
    refine g_iadd dX4_putPart_54 ?_
    refine g_iload 5 dX4_putPart_55 rfl ?_
    refine g_iast (ws1 := [(p0, oo 4 [.int (iI mk), .int (iI px), .int (iI py), .int (iI pa), .int (iI pb), .int (iI nw), .ref w1, .ref w2, .int (iI np), .ref w3, .int (iI nq), .ref w4]), (w3, aI E 576 (up (up (up (up zt (4 * nq) l) ((4 * nq) + 1) lw) ((4 * nq) + 2) w) ((4 * nq) + 3) h))]) 1 dX4_putPart_57 rfl rfl (by decide) (by omega) (by omega) ?_
    refine g_aload_n 1 dX4_putPart_58 rfl rfl ?_
    refine g_dup dX4_putPart_59 rfl ?_
    refine g_get (C := RX4) (T := TX4) (N := 12) 0 10 (fun _ h => List.mem_cons_of_mem _ (List.mem_append_right _ h)) (List.mem_of_getElem? (i := 1) rfl) rfl rfl (by decide) rfl rfl dX4_putPart_60 ?_
    refine g_iconst dX4_putPart_63 ?_
    refine g_iadd dX4_putPart_64 ?_
    refine g_put (C := RX4) (T := TX4) (N := 12) (ws1 := [(p0, oo 4 [.int (iI mk), .int (iI px), .int (iI py), .int (iI pa), .int (iI pb), .int (iI nw), .ref w1, .ref w2, .int (iI np), .ref w3, .int (iI (nq + 1)), .ref w4]), (w3, aI E 576 (up (up (up (up zt (4 * nq) l) ((4 * nq) + 1) lw) ((4 * nq) + 2) w) ((4 * nq) + 3) h))]) 0 10 (fun _ h => List.mem_cons_of_mem _ (List.mem_append_right _ h)) tyX4 tyX4_ok nmX4 (List.mem_of_getElem? (i := 1) rfl) rfl rfl (by decide) rfl (tyX4_ok 10 (by decide)) rfl rfl (by first | decide | exact Nat.le_of_ble_eq_true rfl) dX4_putPart_65 rfl rfl ?_
    exact g_vret hRet dX4_putPart_68 rfl
  · exact g_vret hRet dX4_putPart_10 (by exfalso; omega)

set_option maxHeartbeats 4000000 in
set_option maxRecDepth 100000 in
theorem c_X4_layCase (E : Ev) (p0 : Nat) (w1 : Nat) (w2 : Nat) (w3 : Nat) (w4 : Nat) (mk : Int) (px : Int) (py : Int) (pa : Int) (pb : Int) (nw : Int) (np : Int) (nq : Int) (zc : Int → Int) (l : Int) (lw : Int) (al : Int) (hq : 0 ≤ np ∧ np < 144) (hal : al = 0 ∨ al = 1) : MV yX4_layCase wsX4_layCase ({ frames := 0, cells := 0, slots := 0, locals := 0 } : Room) E [] 0 0 [.ref p0, .int (iI l), .int (iI lw), .int (iI al)] [(p0, oo 4 [.int (iI mk), .int (iI px), .int (iI py), .int (iI pa), .int (iI pb), .int (iI nw), .ref w1, .ref w2, .int (iI np), .ref w3, .int (iI nq), .ref w4]), (w2, aI E 576 zc)] (fun u => ∃ (zc' : Int → Int), zc' = up (up (up (up zc (4 * np) l) (4 * np + 1) lw) (4 * np + 2) (if al = 0 then pb else pa)) (4 * np + 3) (if al = 0 then pa else pb) ∧ u = [(p0, oo 4 [.int (iI mk), .int (iI px), .int (iI py), .int (iI pa), .int (iI pb), .int (iI nw), .ref w1, .ref w2, .int (iI (np + 1)), .ref w3, .int (iI nq), .ref w4]), (w2, aI E 576 zc')]) := by
  refine MV.of (cc := cX4_layCase) (maxL := 5) (own := RX4) (by decide) rfl rfl rfl (Nat.le_of_ble_eq_true rfl) [(0, .ref p0), (1, .int (iI l)), (2, .int (iI lw)), (3, .int (iI al))] rfl ?_
  intro X hin2 hRet
  refine g_aload_n 0 dX4_layCase_0 rfl rfl ?_
  refine g_get (C := RX4) (T := TX4) (N := 12) 0 8 (fun _ h => List.mem_cons_of_mem _ (List.mem_append_right _ h)) (List.mem_of_getElem? (i := 1) rfl) rfl rfl (by decide) rfl rfl dX4_layCase_1 ?_
  refine g_sipush dX4_layCase_4 rfl ?_
  refine g_icmp_lt (tgt := 11) (by unfold R32; omega) (by unfold R32; omega) dX4_layCase_7 rfl (fun c_1 => ?_) (fun c_1 => ?_)
  · refine g_iconst dX4_layCase_11 ?_
    refine g_aload_n 0 dX4_layCase_12 rfl rfl ?_
    refine g_get (C := RX4) (T := TX4) (N := 12) 0 8 (fun _ h => List.mem_cons_of_mem _ (List.mem_append_right _ h)) (List.mem_of_getElem? (i := 1) rfl) rfl rfl (by decide) rfl rfl dX4_layCase_13 ?_
    refine g_imul dX4_layCase_16 ?_
    refine g_istore (lv1 := [(4, .int (iI (4 * np))), (0, .ref p0), (1, .int (iI l)), (2, .int (iI lw)), (3, .int (iI al))]) dX4_layCase_17 (by decide) rfl ?_
    refine g_aload_n 1 dX4_layCase_19 rfl rfl ?_
    refine g_get (C := RX4) (T := TX4) (N := 12) 0 7 (fun _ h => List.mem_cons_of_mem _ (List.mem_append_right _ h)) (List.mem_of_getElem? (i := 2) rfl) rfl rfl (by decide) rfl rfl dX4_layCase_20 ?_
    refine g_iload 0 dX4_layCase_23 rfl ?_
    refine g_iload_n 2 dX4_layCase_25 rfl rfl ?_
    refine g_iast (ws1 := [(p0, oo 4 [.int (iI mk), .int (iI px), .int (iI py), .int (iI pa), .int (iI pb), .int (iI nw), .ref w1, .ref w2, .int (iI np), .ref w3, .int (iI nq), .ref w4]), (w2, aI E 576 (up zc (4 * np) l))]) 1 dX4_layCase_26 rfl rfl (by decide) (by omega) (by omega) ?_
    refine g_aload_n 1 dX4_layCase_27 rfl rfl ?_
    refine g_get (C := RX4) (T := TX4) (N := 12) 0 7 (fun _ h => List.mem_cons_of_mem _ (List.mem_append_right _ h)) (List.mem_of_getElem? (i := 2) rfl) rfl rfl (by decide) rfl rfl dX4_layCase_28 ?_
    refine g_iload 0 dX4_layCase_31 rfl ?_
    refine g_iconst dX4_layCase_33 ?_
    refine g_iadd dX4_layCase_34 ?_
    refine g_iload_n 3 dX4_layCase_35 rfl rfl ?_
    refine g_iast (ws1 := [(p0, oo 4 [.int (iI mk), .int (iI px), .int (iI py), .int (iI pa), .int (iI pb), .int (iI nw), .ref w1, .ref w2, .int (iI np), .ref w3, .int (iI nq), .ref w4]), (w2, aI E 576 (up (up zc (4 * np) l) ((4 * np) + 1) lw))]) 1 dX4_layCase_36 rfl rfl (by decide) (by omega) (by omega) ?_
    refine g_aload_n 1 dX4_layCase_37 rfl rfl ?_
    refine g_get (C := RX4) (T := TX4) (N := 12) 0 7 (fun _ h => List.mem_cons_of_mem _ (List.mem_append_right _ h)) (List.mem_of_getElem? (i := 2) rfl) rfl rfl (by decide) rfl rfl dX4_layCase_38 ?_
    refine g_iload 0 dX4_layCase_41 rfl ?_
    refine g_iconst dX4_layCase_43 ?_
    refine g_iadd dX4_layCase_44 ?_
    refine g_iload_n 4 dX4_layCase_45 rfl rfl ?_
    refine g_if_eq (tgt := 56) (by unfold R32; omega) dX4_layCase_46 rfl (fun c_2 => ?_) (fun c_2 => ?_)
    · refine g_aload_n 1 dX4_layCase_56 rfl rfl ?_
      refine g_get (C := RX4) (T := TX4) (N := 12) 0 4 (fun _ h => List.mem_cons_of_mem _ (List.mem_append_right _ h)) (List.mem_of_getElem? (i := 4) rfl) rfl rfl (by decide) rfl rfl dX4_layCase_57 ?_
      refine g_iast (ws1 := [(p0, oo 4 [.int (iI mk), .int (iI px), .int (iI py), .int (iI pa), .int (iI pb), .int (iI nw), .ref w1, .ref w2, .int (iI np), .ref w3, .int (iI nq), .ref w4]), (w2, aI E 576 (up (up (up zc (4 * np) l) ((4 * np) + 1) lw) ((4 * np) + 2) pb))]) 1 dX4_layCase_60 rfl rfl (by decide) (by omega) (by omega) ?_
      refine g_aload_n 1 dX4_layCase_61 rfl rfl ?_
      refine g_get (C := RX4) (T := TX4) (N := 12) 0 7 (fun _ h => List.mem_cons_of_mem _ (List.mem_append_right _ h)) (List.mem_of_getElem? (i := 2) rfl) rfl rfl (by decide) rfl rfl dX4_layCase_62 ?_
      refine g_iload 0 dX4_layCase_65 rfl ?_
      refine g_iconst dX4_layCase_67 ?_
      refine g_iadd dX4_layCase_68 ?_
      refine g_iload_n 4 dX4_layCase_69 rfl rfl ?_
      refine g_if_eq (tgt := 80) (by unfold R32; omega) dX4_layCase_70 rfl (fun c_3 => ?_) (fun c_3 => ?_)
      · refine g_aload_n 1 dX4_layCase_80 rfl rfl ?_
        refine g_get (C := RX4) (T := TX4) (N := 12) 0 3 (fun _ h => List.mem_cons_of_mem _ (List.mem_append_right _ h)) (List.mem_of_getElem? (i := 3) rfl) rfl rfl (by decide) rfl rfl dX4_layCase_81 ?_
        refine g_iast (ws1 := [(p0, oo 4 [.int (iI mk), .int (iI px), .int (iI py), .int (iI pa), .int (iI pb), .int (iI nw), .ref w1, .ref w2, .int (iI np), .ref w3, .int (iI nq), .ref w4]), (w2, aI E 576 (up (up (up (up zc (4 * np) l) ((4 * np) + 1) lw) ((4 * np) + 2) pb) ((4 * np) + 3) pa))]) 1 dX4_layCase_84 rfl rfl (by decide) (by omega) (by omega) ?_
        refine g_aload_n 1 dX4_layCase_85 rfl rfl ?_
        refine g_dup dX4_layCase_86 rfl ?_
        refine g_get (C := RX4) (T := TX4) (N := 12) 0 8 (fun _ h => List.mem_cons_of_mem _ (List.mem_append_right _ h)) (List.mem_of_getElem? (i := 1) rfl) rfl rfl (by decide) rfl rfl dX4_layCase_87 ?_
        refine g_iconst dX4_layCase_90 ?_
        refine g_iadd dX4_layCase_91 ?_
        refine g_put (C := RX4) (T := TX4) (N := 12) (ws1 := [(p0, oo 4 [.int (iI mk), .int (iI px), .int (iI py), .int (iI pa), .int (iI pb), .int (iI nw), .ref w1, .ref w2, .int (iI (np + 1)), .ref w3, .int (iI nq), .ref w4]), (w2, aI E 576 (up (up (up (up zc (4 * np) l) ((4 * np) + 1) lw) ((4 * np) + 2) pb) ((4 * np) + 3) pa))]) 0 8 (fun _ h => List.mem_cons_of_mem _ (List.mem_append_right _ h)) tyX4 tyX4_ok nmX4 (List.mem_of_getElem? (i := 1) rfl) rfl rfl (by decide) rfl (tyX4_ok 8 (by decide)) rfl rfl (by first | decide | exact Nat.le_of_ble_eq_true rfl) dX4_layCase_92 rfl rfl ?_
        exact g_vret hRet dX4_layCase_95 ⟨(up (up (up (up zc (4 * np) l) ((4 * np) + 1) lw) ((4 * np) + 2) pb) ((4 * np) + 3) pa), (by first | rw [if_pos (by assumption), if_pos (by assumption)] | rw [if_neg (by assumption), if_neg (by assumption)]), rfl⟩
      · exact absurd c_2 (by assumption)
    · refine g_aload_n 1 dX4_layCase_49 rfl rfl ?_
      refine g_get (C := RX4) (T := TX4) (N := 12) 0 3 (fun _ h => List.mem_cons_of_mem _ (List.mem_append_right _ h)) (List.mem_of_getElem? (i := 3) rfl) rfl rfl (by decide) rfl rfl dX4_layCase_50 ?_
      refine g_goto (tgt := 60) dX4_layCase_53 rfl ?_
      refine g_iast (ws1 := [(p0, oo 4 [.int (iI mk), .int (iI px), .int (iI py), .int (iI pa), .int (iI pb), .int (iI nw), .ref w1, .ref w2, .int (iI np), .ref w3, .int (iI nq), .ref w4]), (w2, aI E 576 (up (up (up zc (4 * np) l) ((4 * np) + 1) lw) ((4 * np) + 2) pa))]) 1 dX4_layCase_60 rfl rfl (by decide) (by omega) (by omega) ?_
      refine g_aload_n 1 dX4_layCase_61 rfl rfl ?_
      refine g_get (C := RX4) (T := TX4) (N := 12) 0 7 (fun _ h => List.mem_cons_of_mem _ (List.mem_append_right _ h)) (List.mem_of_getElem? (i := 2) rfl) rfl rfl (by decide) rfl rfl dX4_layCase_62 ?_
      refine g_iload 0 dX4_layCase_65 rfl ?_
      refine g_iconst dX4_layCase_67 ?_
      refine g_iadd dX4_layCase_68 ?_
      refine g_iload_n 4 dX4_layCase_69 rfl rfl ?_
      refine g_if_eq (tgt := 80) (by unfold R32; omega) dX4_layCase_70 rfl (fun c_4 => ?_) (fun c_4 => ?_)
      · exact absurd (by assumption) c_2
      · refine g_aload_n 1 dX4_layCase_73 rfl rfl ?_
        refine g_get (C := RX4) (T := TX4) (N := 12) 0 4 (fun _ h => List.mem_cons_of_mem _ (List.mem_append_right _ h)) (List.mem_of_getElem? (i := 4) rfl) rfl rfl (by decide) rfl rfl dX4_layCase_74 ?_
        refine g_goto (tgt := 84) dX4_layCase_77 rfl ?_
        refine g_iast (ws1 := [(p0, oo 4 [.int (iI mk), .int (iI px), .int (iI py), .int (iI pa), .int (iI pb), .int (iI nw), .ref w1, .ref w2, .int (iI np), .ref w3, .int (iI nq), .ref w4]), (w2, aI E 576 (up (up (up (up zc (4 * np) l) ((4 * np) + 1) lw) ((4 * np) + 2) pa) ((4 * np) + 3) pb))]) 1 dX4_layCase_84 rfl rfl (by decide) (by omega) (by omega) ?_
        refine g_aload_n 1 dX4_layCase_85 rfl rfl ?_
        refine g_dup dX4_layCase_86 rfl ?_
        refine g_get (C := RX4) (T := TX4) (N := 12) 0 8 (fun _ h => List.mem_cons_of_mem _ (List.mem_append_right _ h)) (List.mem_of_getElem? (i := 1) rfl) rfl rfl (by decide) rfl rfl dX4_layCase_87 ?_
        refine g_iconst dX4_layCase_90 ?_
        refine g_iadd dX4_layCase_91 ?_
        refine g_put (C := RX4) (T := TX4) (N := 12) (ws1 := [(p0, oo 4 [.int (iI mk), .int (iI px), .int (iI py), .int (iI pa), .int (iI pb), .int (iI nw), .ref w1, .ref w2, .int (iI (np + 1)), .ref w3, .int (iI nq), .ref w4]), (w2, aI E 576 (up (up (up (up zc (4 * np) l) ((4 * np) + 1) lw) ((4 * np) + 2) pa) ((4 * np) + 3) pb))]) 0 8 (fun _ h => List.mem_cons_of_mem _ (List.mem_append_right _ h)) tyX4 tyX4_ok nmX4 (List.mem_of_getElem? (i := 1) rfl) rfl rfl (by decide) rfl (tyX4_ok 8 (by decide)) rfl rfl (by first | decide | exact Nat.le_of_ble_eq_true rfl) dX4_layCase_92 rfl rfl ?_
        exact g_vret hRet dX4_layCase_95 ⟨(up (up (up (up zc (4 * np) l) ((4 * np) + 1) lw) ((4 * np) + 2) pa) ((4 * np) + 3) pb), (by first | rw [if_pos (by assumption), if_pos (by assumption)] | rw [if_neg (by assumption), if_neg (by assumption)]), rfl⟩
  · exact g_vret hRet dX4_layCase_10 ⟨zc, (by exfalso; omega), (by exfalso; omega)⟩

set_option maxHeartbeats 4000000 in
set_option maxRecDepth 100000 in
theorem c_X4_cutUpright (E : Ev) (p0 : Nat) (w1 : Nat) (w2 : Nat) (w3 : Nat) (w4 : Nat) (mk : Int) (px : Int) (py : Int) (pa : Int) (pb : Int) (nw : Int) (np : Int) (nq : Int) (mo : Int → Int) (zt : Int → Int) (l : Int) (lw : Int) (w : Int) (h : Int) (Rs : List Qd) (hw : 1 ≤ w ∧ w ≤ 12) (hh : 1 ≤ h ∧ h ≤ 12) (hmo : ∀ k, 0 ≤ mo k ∧ mo k ≤ 144) (hr : rep zt nq Rs) (har : nq + w * h ≤ 144) : MI yX4_cutUpright wsX4_cutUpright ({ frames := 2, cells := 0, slots := 0, locals := 45 } : Room) E [] 0 0 [.ref p0, .int (iI l), .int (iI lw), .int (iI w), .int (iI h)] [(p0, oo 4 [.int (iI mk), .int (iI px), .int (iI py), .int (iI pa), .int (iI pb), .int (iI nw), .ref w1, .ref w2, .int (iI np), .ref w3, .int (iI nq), .ref w4]), (w1, aI E 169 mo), (w3, aI E 576 zt)] (fun r u => ∃ (x : Int), ∃ (nq' : Int), ∃ (zt' : Int → Int), ((x = 1 ∧ ∃ C, cutR (tb mo) l lw w h C ∧ rep zt' nq' (C ++ Rs)) ∨ (x = 0 ∧ nU (tb mo) w h ∧ zt' = zt ∧ nq' = nq)) ∧ r = iI x ∧ u = [(p0, oo 4 [.int (iI mk), .int (iI px), .int (iI py), .int (iI pa), .int (iI pb), .int (iI nw), .ref w1, .ref w2, .int (iI np), .ref w3, .int (iI nq'), .ref w4]), (w1, aI E 169 mo), (w3, aI E 576 zt')]) := by
  refine MI.of (cc := cX4_cutUpright) (maxL := 6) (own := RX4) (by decide) rfl rfl rfl (Nat.le_of_ble_eq_true rfl) [(0, .ref p0), (1, .int (iI l)), (2, .int (iI lw)), (3, .int (iI w)), (4, .int (iI h))] rfl ?_
  intro X hin2 hRet
  have hlen := rep_len hr
  refine g_iconst dX4_cutUpright_0 ?_
  refine g_istore (lv1 := [(5, .int (iI 1)), (0, .ref p0), (1, .int (iI l)), (2, .int (iI lw)), (3, .int (iI w)), (4, .int (iI h))]) dX4_cutUpright_1 (by decide) rfl ?_
  refine g_lv (lv1 := [(0, .ref p0), (1, .int (iI l)), (2, .int (iI lw)), (3, .int (iI w)), (4, .int (iI h)), (5, .int (iI 1))]) [1, 2, 3, 4, 5, 0] rfl ?_
  have L3 : ∀ (nn : Nat) (k : Int) (hk : 1 ≤ k ∧ k ≤ w) (hN : ∀ j, 1 ≤ j → j < k → cU (tb mo) w h j ≠ tb mo w h) (hm : w - k < (nn : Int)), G X ({ frames := 2, cells := 0, slots := 0, locals := 45 } : Room) cX4_cutUpright 6 RX4 wsX4_cutUpright E [] 0 0 [(p0, oo 4 [.int (iI mk), .int (iI px), .int (iI py), .int (iI pa), .int (iI pb), .int (iI nw), .ref w1, .ref w2, .int (iI np), .ref w3, .int (iI nq), .ref w4]), (w1, aI E 169 mo), (w3, aI E 576 zt)] [(0, .ref p0), (1, .int (iI l)), (2, .int (iI lw)), (3, .int (iI w)), (4, .int (iI h)), (5, .int (iI k))] 3 [] := by
    intro nn
    induction nn with
    | zero => intro k hk hN hm; exfalso; omega
    | succ nn ih3 =>
      intro k hk hN hm
      refine g_iload 5 dX4_cutUpright_3 rfl ?_
      refine g_iload_n 3 dX4_cutUpright_5 rfl rfl ?_
      refine g_icmp_ge (tgt := 61) (by unfold R32; omega) (by unfold R32; omega) dX4_cutUpright_6 rfl (fun c_1 => ?_) (fun c_1 => ?_)
      · refine g_iconst dX4_cutUpright_61 ?_
        exact g_iret hRet dX4_cutUpright_62 rfl ⟨0, nq, zt, (by exact Or.inr ⟨rfl, fun j j1 j2 => hN j j1 (by omega), rfl, rfl⟩), rfl, rfl⟩
      · refine g_aload_n 0 dX4_cutUpright_9 rfl rfl ?_
        refine g_iload_n 3 dX4_cutUpright_10 rfl rfl ?_
        refine g_iload 4 dX4_cutUpright_11 rfl ?_
        refine g_iload 5 dX4_cutUpright_13 rfl ?_
        refine g_callV_i (n := 3) (As := [.int (iI w), .int (iI h), .int (iI k)]) (wr := [(w3, aI E 576 zt)]) (C := RX4) [] (c_X4_byUprightCut E p0 w1 w2 w3 w4 mk px py pa pb nw np nq mo w h k (by omega) (by omega) (by omega)) [0, 1] [2] 0 rfl rfl gX4_cutUpright_X4_byUprightCut rfl ⟨rfl, by decide +kernel⟩ ⟨by decide, by decide⟩ rfl rfl rfl rfl rfl (by decide) rfl (by decide) (by decide) (fun _ h => absurd h List.not_mem_nil) dX4_cutUpright_15 rfl (Nat.le_of_ble_eq_true rfl) ⟨by decide, by decide⟩ (fun r u p_2 => ?_)
        obtain ⟨rfl, rfl⟩ := p_2
        refine g_perm (ws1 := [(p0, oo 4 [.int (iI mk), .int (iI px), .int (iI py), .int (iI pa), .int (iI pb), .int (iI nw), .ref w1, .ref w2, .int (iI np), .ref w3, .int (iI nq), .ref w4]), (w1, aI E 169 mo), (w3, aI E 576 zt)]) [1, 2, 0] rfl (by decide) rfl ?_
        have hcu := cU_b hmo w h k
        refine g_aload_n 0 dX4_cutUpright_18 rfl rfl ?_
        refine g_iload_n 3 dX4_cutUpright_19 rfl rfl ?_
        refine g_iload 4 dX4_cutUpright_20 rfl ?_
        refine g_callV_i (n := 2) (As := [.int (iI w), .int (iI h)]) (wr := [(w3, aI E 576 zt)]) (C := RX4) [.int (iI (cU (tb mo) w h k))] (c_X4_mostOf E p0 w1 w2 w3 w4 mk px py pa pb nw np nq mo w h (by omega) (by omega)) [0, 1] [2] 0 rfl rfl gX4_cutUpright_X4_mostOf rfl ⟨rfl, by decide +kernel⟩ ⟨by decide, by decide⟩ rfl rfl rfl rfl rfl (by decide) rfl (by decide) (by decide) (fun _ h => absurd h List.not_mem_nil) dX4_cutUpright_22 rfl (Nat.le_of_ble_eq_true rfl) ⟨by decide, by decide⟩ (fun r u p_3 => ?_)
        obtain ⟨rfl, rfl⟩ := p_3
        refine g_perm (ws1 := [(p0, oo 4 [.int (iI mk), .int (iI px), .int (iI py), .int (iI pa), .int (iI pb), .int (iI nw), .ref w1, .ref w2, .int (iI np), .ref w3, .int (iI nq), .ref w4]), (w1, aI E 169 mo), (w3, aI E 576 zt)]) [1, 2, 0] rfl (by decide) rfl ?_
        have hmw := tb_b hmo w h
        refine g_icmp_ne (tgt := 55) (by unfold R32; omega) (by unfold R32; omega) dX4_cutUpright_25 rfl (fun hne => ?_) (fun hne => ?_)
        · have hw2 := mul_ge (w := w) (h := h) (p := 2) (q := 1) (by omega) (by omega) (by omega) (by omega)
          refine g_aload_n 0 dX4_cutUpright_28 rfl rfl ?_
          refine g_iload_n 1 dX4_cutUpright_29 rfl rfl ?_
          refine g_iload 5 dX4_cutUpright_30 rfl ?_
          refine g_iadd dX4_cutUpright_32 ?_
          refine g_iload_n 2 dX4_cutUpright_33 rfl rfl ?_
          refine g_iload_n 3 dX4_cutUpright_34 rfl rfl ?_
          refine g_iload 5 dX4_cutUpright_35 rfl ?_
          refine g_isub dX4_cutUpright_37 ?_
          refine g_iload 4 dX4_cutUpright_38 rfl ?_
          refine g_callV_v (n := 4) (As := [.int (iI (l + k)), .int (iI lw), .int (iI (w - k)), .int (iI h)]) (wr := [(w1, aI E 169 mo)]) (C := RX4) [] (c_X4_putPart E p0 w1 w2 w3 w4 mk px py pa pb nw np nq zt (l + k) lw (w - k) h (by omega)) [0, 2] [1] 0 rfl rfl gX4_cutUpright_X4_putPart rfl ⟨rfl, by decide +kernel⟩ ⟨by decide, by decide⟩ rfl rfl rfl rfl rfl (by decide) rfl (by decide) (by decide) (fun _ h => absurd h List.not_mem_nil) dX4_cutUpright_40 rfl (Nat.le_of_ble_eq_true rfl) ⟨by decide, by decide⟩ (fun u p_4 => ?_)
          subst p_4
          refine g_perm (ws1 := [(p0, oo 4 [.int (iI mk), .int (iI px), .int (iI py), .int (iI pa), .int (iI pb), .int (iI nw), .ref w1, .ref w2, .int (iI np), .ref w3, .int (iI (nq + 1)), .ref w4]), (w1, aI E 169 mo), (w3, aI E 576 (up (up (up (up zt (4 * nq) (l + k)) (4 * nq + 1) lw) (4 * nq + 2) (w - k)) (4 * nq + 3) h))]) [1, 0, 2] rfl (by decide) rfl ?_
          refine g_aload_n 0 dX4_cutUpright_43 rfl rfl ?_
          refine g_iload_n 1 dX4_cutUpright_44 rfl rfl ?_
          refine g_iload_n 2 dX4_cutUpright_45 rfl rfl ?_
          refine g_iload 5 dX4_cutUpright_46 rfl ?_
          refine g_iload 4 dX4_cutUpright_48 rfl ?_
          refine g_callV_v (n := 4) (As := [.int (iI l), .int (iI lw), .int (iI k), .int (iI h)]) (wr := [(w1, aI E 169 mo)]) (C := RX4) [] (c_X4_putPart E p0 w1 w2 w3 w4 mk px py pa pb nw np (nq + 1) (up (up (up (up zt (4 * nq) (l + k)) (4 * nq + 1) lw) (4 * nq + 2) (w - k)) (4 * nq + 3) h) l lw k h (by omega)) [0, 2] [1] 0 rfl rfl gX4_cutUpright_X4_putPart rfl ⟨rfl, by decide +kernel⟩ ⟨by decide, by decide⟩ rfl rfl rfl rfl rfl (by decide) rfl (by decide) (by decide) (fun _ h => absurd h List.not_mem_nil) dX4_cutUpright_50 rfl (Nat.le_of_ble_eq_true rfl) ⟨by decide, by decide⟩ (fun u p_5 => ?_)
          subst p_5
          refine g_perm (ws1 := [(p0, oo 4 [.int (iI mk), .int (iI px), .int (iI py), .int (iI pa), .int (iI pb), .int (iI nw), .ref w1, .ref w2, .int (iI np), .ref w3, .int (iI ((nq + 1) + 1)), .ref w4]), (w1, aI E 169 mo), (w3, aI E 576 (up (up (up (up (up (up (up (up zt (4 * nq) (l + k)) (4 * nq + 1) lw) (4 * nq + 2) (w - k)) (4 * nq + 3) h) (4 * (nq + 1)) l) (4 * (nq + 1) + 1) lw) (4 * (nq + 1) + 2) k) (4 * (nq + 1) + 3) h))]) [1, 0, 2] rfl (by decide) rfl ?_
          refine g_iconst dX4_cutUpright_53 ?_
          exact g_iret hRet dX4_cutUpright_54 rfl ⟨1, ((nq + 1) + 1), (up (up (up (up (up (up (up (up zt (4 * nq) (l + k)) (4 * nq + 1) lw) (4 * nq + 2) (w - k)) (4 * nq + 3) h) (4 * (nq + 1)) l) (4 * (nq + 1) + 1) lw) (4 * (nq + 1) + 2) k) (4 * (nq + 1) + 3) h), (by exact Or.inl ⟨rfl, _, Or.inl ⟨k, by omega, by omega, hne, hN, rfl⟩, rep_push (rep_push hr _ _ _ _) _ _ _ _⟩), rfl, rfl⟩
        · refine g_iinc (lv1 := [(5, .int (iI (k + 1))), (0, .ref p0), (1, .int (iI l)), (2, .int (iI lw)), (3, .int (iI w)), (4, .int (iI h))]) 5 dX4_cutUpright_55 rfl (by decide) rfl ?_
          refine g_goto (tgt := 3) dX4_cutUpright_58 rfl ?_
          refine g_lv (lv1 := [(0, .ref p0), (1, .int (iI l)), (2, .int (iI lw)), (3, .int (iI w)), (4, .int (iI h)), (5, .int (iI (k + 1)))]) [1, 2, 3, 4, 5, 0] rfl ?_
          exact ih3 (k + 1) (by omega) (by intro j j1 j2; by_cases e : j = k; rw [e]; exact hne; exact hN j j1 (by omega)) (by omega)
  exact L3 _ 1 (by omega) (by intro j j1 j2; omega) (lt_nn _)

set_option maxHeartbeats 4000000 in
set_option maxRecDepth 100000 in
theorem c_X4_cutLevel (E : Ev) (p0 : Nat) (w1 : Nat) (w2 : Nat) (w3 : Nat) (w4 : Nat) (mk : Int) (px : Int) (py : Int) (pa : Int) (pb : Int) (nw : Int) (np : Int) (nq : Int) (mo : Int → Int) (zt : Int → Int) (l : Int) (lw : Int) (w : Int) (h : Int) (Rs : List Qd) (hw : 1 ≤ w ∧ w ≤ 12) (hh : 1 ≤ h ∧ h ≤ 12) (hmo : ∀ k, 0 ≤ mo k ∧ mo k ≤ 144) (hr : rep zt nq Rs) (har : nq + w * h ≤ 144) (hU : nU (tb mo) w h) : MI yX4_cutLevel wsX4_cutLevel ({ frames := 2, cells := 0, slots := 0, locals := 45 } : Room) E [] 0 0 [.ref p0, .int (iI l), .int (iI lw), .int (iI w), .int (iI h)] [(p0, oo 4 [.int (iI mk), .int (iI px), .int (iI py), .int (iI pa), .int (iI pb), .int (iI nw), .ref w1, .ref w2, .int (iI np), .ref w3, .int (iI nq), .ref w4]), (w1, aI E 169 mo), (w3, aI E 576 zt)] (fun r u => ∃ (x : Int), ∃ (nq' : Int), ∃ (zt' : Int → Int), ((x = 1 ∧ ∃ C, cutR (tb mo) l lw w h C ∧ rep zt' nq' (C ++ Rs)) ∨ (x = 0 ∧ nL (tb mo) w h ∧ zt' = zt ∧ nq' = nq)) ∧ r = iI x ∧ u = [(p0, oo 4 [.int (iI mk), .int (iI px), .int (iI py), .int (iI pa), .int (iI pb), .int (iI nw), .ref w1, .ref w2, .int (iI np), .ref w3, .int (iI nq'), .ref w4]), (w1, aI E 169 mo), (w3, aI E 576 zt')]) := by
  refine MI.of (cc := cX4_cutLevel) (maxL := 6) (own := RX4) (by decide) rfl rfl rfl (Nat.le_of_ble_eq_true rfl) [(0, .ref p0), (1, .int (iI l)), (2, .int (iI lw)), (3, .int (iI w)), (4, .int (iI h))] rfl ?_
  intro X hin2 hRet
  have hlen := rep_len hr
  refine g_iconst dX4_cutLevel_0 ?_
  refine g_istore (lv1 := [(5, .int (iI 1)), (0, .ref p0), (1, .int (iI l)), (2, .int (iI lw)), (3, .int (iI w)), (4, .int (iI h))]) dX4_cutLevel_1 (by decide) rfl ?_
  refine g_lv (lv1 := [(0, .ref p0), (1, .int (iI l)), (2, .int (iI lw)), (3, .int (iI w)), (4, .int (iI h)), (5, .int (iI 1))]) [1, 2, 3, 4, 5, 0] rfl ?_
  have L3 : ∀ (nn : Nat) (k : Int) (hk : 1 ≤ k ∧ k ≤ h) (hN : ∀ j, 1 ≤ j → j < k → cL (tb mo) w h j ≠ tb mo w h) (hm : h - k < (nn : Int)), G X ({ frames := 2, cells := 0, slots := 0, locals := 45 } : Room) cX4_cutLevel 6 RX4 wsX4_cutLevel E [] 0 0 [(p0, oo 4 [.int (iI mk), .int (iI px), .int (iI py), .int (iI pa), .int (iI pb), .int (iI nw), .ref w1, .ref w2, .int (iI np), .ref w3, .int (iI nq), .ref w4]), (w1, aI E 169 mo), (w3, aI E 576 zt)] [(0, .ref p0), (1, .int (iI l)), (2, .int (iI lw)), (3, .int (iI w)), (4, .int (iI h)), (5, .int (iI k))] 3 [] := by
    intro nn
    induction nn with
    | zero => intro k hk hN hm; exfalso; omega
    | succ nn ih3 =>
      intro k hk hN hm
      refine g_iload 5 dX4_cutLevel_3 rfl ?_
      refine g_iload 4 dX4_cutLevel_5 rfl ?_
      refine g_icmp_ge (tgt := 61) (by unfold R32; omega) (by unfold R32; omega) dX4_cutLevel_7 rfl (fun c_1 => ?_) (fun c_1 => ?_)
      · refine g_iconst dX4_cutLevel_61 ?_
        exact g_iret hRet dX4_cutLevel_62 rfl ⟨0, nq, zt, (by exact Or.inr ⟨rfl, fun j j1 j2 => hN j j1 (by omega), rfl, rfl⟩), rfl, rfl⟩
      · refine g_aload_n 0 dX4_cutLevel_10 rfl rfl ?_
        refine g_iload_n 3 dX4_cutLevel_11 rfl rfl ?_
        refine g_iload 4 dX4_cutLevel_12 rfl ?_
        refine g_iload 5 dX4_cutLevel_14 rfl ?_
        refine g_callV_i (n := 3) (As := [.int (iI w), .int (iI h), .int (iI k)]) (wr := [(w3, aI E 576 zt)]) (C := RX4) [] (c_X4_byLevelCut E p0 w1 w2 w3 w4 mk px py pa pb nw np nq mo w h k (by omega) (by omega) (by omega)) [0, 1] [2] 0 rfl rfl gX4_cutLevel_X4_byLevelCut rfl ⟨rfl, by decide +kernel⟩ ⟨by decide, by decide⟩ rfl rfl rfl rfl rfl (by decide) rfl (by decide) (by decide) (fun _ h => absurd h List.not_mem_nil) dX4_cutLevel_16 rfl (Nat.le_of_ble_eq_true rfl) ⟨by decide, by decide⟩ (fun r u p_2 => ?_)
        obtain ⟨rfl, rfl⟩ := p_2
        refine g_perm (ws1 := [(p0, oo 4 [.int (iI mk), .int (iI px), .int (iI py), .int (iI pa), .int (iI pb), .int (iI nw), .ref w1, .ref w2, .int (iI np), .ref w3, .int (iI nq), .ref w4]), (w1, aI E 169 mo), (w3, aI E 576 zt)]) [1, 2, 0] rfl (by decide) rfl ?_
        have hcu := cL_b hmo w h k
        refine g_aload_n 0 dX4_cutLevel_19 rfl rfl ?_
        refine g_iload_n 3 dX4_cutLevel_20 rfl rfl ?_
        refine g_iload 4 dX4_cutLevel_21 rfl ?_
        refine g_callV_i (n := 2) (As := [.int (iI w), .int (iI h)]) (wr := [(w3, aI E 576 zt)]) (C := RX4) [.int (iI (cL (tb mo) w h k))] (c_X4_mostOf E p0 w1 w2 w3 w4 mk px py pa pb nw np nq mo w h (by omega) (by omega)) [0, 1] [2] 0 rfl rfl gX4_cutLevel_X4_mostOf rfl ⟨rfl, by decide +kernel⟩ ⟨by decide, by decide⟩ rfl rfl rfl rfl rfl (by decide) rfl (by decide) (by decide) (fun _ h => absurd h List.not_mem_nil) dX4_cutLevel_23 rfl (Nat.le_of_ble_eq_true rfl) ⟨by decide, by decide⟩ (fun r u p_3 => ?_)
        obtain ⟨rfl, rfl⟩ := p_3
        refine g_perm (ws1 := [(p0, oo 4 [.int (iI mk), .int (iI px), .int (iI py), .int (iI pa), .int (iI pb), .int (iI nw), .ref w1, .ref w2, .int (iI np), .ref w3, .int (iI nq), .ref w4]), (w1, aI E 169 mo), (w3, aI E 576 zt)]) [1, 2, 0] rfl (by decide) rfl ?_
        have hmw := tb_b hmo w h
        refine g_icmp_ne (tgt := 55) (by unfold R32; omega) (by unfold R32; omega) dX4_cutLevel_26 rfl (fun hne => ?_) (fun hne => ?_)
        · have hw2 := mul_ge (w := w) (h := h) (p := 1) (q := 2) (by omega) (by omega) (by omega) (by omega)
          refine g_aload_n 0 dX4_cutLevel_29 rfl rfl ?_
          refine g_iload_n 1 dX4_cutLevel_30 rfl rfl ?_
          refine g_iload_n 2 dX4_cutLevel_31 rfl rfl ?_
          refine g_iload 5 dX4_cutLevel_32 rfl ?_
          refine g_iadd dX4_cutLevel_34 ?_
          refine g_iload_n 3 dX4_cutLevel_35 rfl rfl ?_
          refine g_iload 4 dX4_cutLevel_36 rfl ?_
          refine g_iload 5 dX4_cutLevel_38 rfl ?_
          refine g_isub dX4_cutLevel_40 ?_
          refine g_callV_v (n := 4) (As := [.int (iI l), .int (iI (lw + k)), .int (iI w), .int (iI (h - k))]) (wr := [(w1, aI E 169 mo)]) (C := RX4) [] (c_X4_putPart E p0 w1 w2 w3 w4 mk px py pa pb nw np nq zt l (lw + k) w (h - k) (by omega)) [0, 2] [1] 0 rfl rfl gX4_cutLevel_X4_putPart rfl ⟨rfl, by decide +kernel⟩ ⟨by decide, by decide⟩ rfl rfl rfl rfl rfl (by decide) rfl (by decide) (by decide) (fun _ h => absurd h List.not_mem_nil) dX4_cutLevel_41 rfl (Nat.le_of_ble_eq_true rfl) ⟨by decide, by decide⟩ (fun u p_4 => ?_)
          subst p_4
          refine g_perm (ws1 := [(p0, oo 4 [.int (iI mk), .int (iI px), .int (iI py), .int (iI pa), .int (iI pb), .int (iI nw), .ref w1, .ref w2, .int (iI np), .ref w3, .int (iI (nq + 1)), .ref w4]), (w1, aI E 169 mo), (w3, aI E 576 (up (up (up (up zt (4 * nq) l) (4 * nq + 1) (lw + k)) (4 * nq + 2) w) (4 * nq + 3) (h - k)))]) [1, 0, 2] rfl (by decide) rfl ?_
          refine g_aload_n 0 dX4_cutLevel_44 rfl rfl ?_
          refine g_iload_n 1 dX4_cutLevel_45 rfl rfl ?_
          refine g_iload_n 2 dX4_cutLevel_46 rfl rfl ?_
          refine g_iload_n 3 dX4_cutLevel_47 rfl rfl ?_
          refine g_iload 5 dX4_cutLevel_48 rfl ?_
          refine g_callV_v (n := 4) (As := [.int (iI l), .int (iI lw), .int (iI w), .int (iI k)]) (wr := [(w1, aI E 169 mo)]) (C := RX4) [] (c_X4_putPart E p0 w1 w2 w3 w4 mk px py pa pb nw np (nq + 1) (up (up (up (up zt (4 * nq) l) (4 * nq + 1) (lw + k)) (4 * nq + 2) w) (4 * nq + 3) (h - k)) l lw w k (by omega)) [0, 2] [1] 0 rfl rfl gX4_cutLevel_X4_putPart rfl ⟨rfl, by decide +kernel⟩ ⟨by decide, by decide⟩ rfl rfl rfl rfl rfl (by decide) rfl (by decide) (by decide) (fun _ h => absurd h List.not_mem_nil) dX4_cutLevel_50 rfl (Nat.le_of_ble_eq_true rfl) ⟨by decide, by decide⟩ (fun u p_5 => ?_)
          subst p_5
          refine g_perm (ws1 := [(p0, oo 4 [.int (iI mk), .int (iI px), .int (iI py), .int (iI pa), .int (iI pb), .int (iI nw), .ref w1, .ref w2, .int (iI np), .ref w3, .int (iI ((nq + 1) + 1)), .ref w4]), (w1, aI E 169 mo), (w3, aI E 576 (up (up (up (up (up (up (up (up zt (4 * nq) l) (4 * nq + 1) (lw + k)) (4 * nq + 2) w) (4 * nq + 3) (h - k)) (4 * (nq + 1)) l) (4 * (nq + 1) + 1) lw) (4 * (nq + 1) + 2) w) (4 * (nq + 1) + 3) k))]) [1, 0, 2] rfl (by decide) rfl ?_
          refine g_iconst dX4_cutLevel_53 ?_
          exact g_iret hRet dX4_cutLevel_54 rfl ⟨1, ((nq + 1) + 1), (up (up (up (up (up (up (up (up zt (4 * nq) l) (4 * nq + 1) (lw + k)) (4 * nq + 2) w) (4 * nq + 3) (h - k)) (4 * (nq + 1)) l) (4 * (nq + 1) + 1) lw) (4 * (nq + 1) + 2) w) (4 * (nq + 1) + 3) k), (by exact Or.inl ⟨rfl, _, Or.inr (Or.inl ⟨hU, k, by omega, by omega, hne, hN, rfl⟩), rep_push (rep_push hr _ _ _ _) _ _ _ _⟩), rfl, rfl⟩
        · refine g_iinc (lv1 := [(5, .int (iI (k + 1))), (0, .ref p0), (1, .int (iI l)), (2, .int (iI lw)), (3, .int (iI w)), (4, .int (iI h))]) 5 dX4_cutLevel_55 rfl (by decide) rfl ?_
          refine g_goto (tgt := 3) dX4_cutLevel_58 rfl ?_
          refine g_lv (lv1 := [(0, .ref p0), (1, .int (iI l)), (2, .int (iI lw)), (3, .int (iI w)), (4, .int (iI h)), (5, .int (iI (k + 1)))]) [1, 2, 3, 4, 5, 0] rfl ?_
          exact ih3 (k + 1) (by omega) (by intro j j1 j2; by_cases e : j = k; rw [e]; exact hne; exact hN j j1 (by omega)) (by omega)
  exact L3 _ 1 (by omega) (by intro j j1 j2; omega) (lt_nn _)

set_option maxHeartbeats 4000000 in
set_option maxRecDepth 100000 in
theorem c_X4_cutPinwheel (E : Ev) (p0 : Nat) (w1 : Nat) (w2 : Nat) (w3 : Nat) (w4 : Nat) (mk : Int) (px : Int) (py : Int) (pa : Int) (pb : Int) (nw : Int) (np : Int) (nq : Int) (mo : Int → Int) (zt : Int → Int) (l : Int) (lw : Int) (w : Int) (h : Int) (Rs : List Qd) (hw : 1 ≤ w ∧ w ≤ 12) (hh : 1 ≤ h ∧ h ≤ 12) (hab : (1 ≤ pa ∧ pa ≤ 12) ∧ 1 ≤ pb ∧ pb ≤ 12) (hn : 1 ≤ nw ∧ nw ≤ pa ∧ nw ≤ pb) (hmo : ∀ k, 0 ≤ mo k ∧ mo k ≤ 144) (hr : rep zt nq Rs) (har : nq + w * h ≤ 144) (hU : nU (tb mo) w h) (hLv : nL (tb mo) w h) (hG : gB pa pb (tb mo) w h) (hB : isB pa pb (tb mo) w h (tb mo w h)) (hm1 : 1 < tb mo w h) : MV yX4_cutPinwheel wsX4_cutPinwheel ({ frames := 2, cells := 0, slots := 0, locals := 48 } : Room) E [] 0 0 [.ref p0, .int (iI l), .int (iI lw), .int (iI w), .int (iI h)] [(p0, oo 4 [.int (iI mk), .int (iI px), .int (iI py), .int (iI pa), .int (iI pb), .int (iI nw), .ref w1, .ref w2, .int (iI np), .ref w3, .int (iI nq), .ref w4]), (w1, aI E 169 mo), (w3, aI E 576 zt)] (fun u => ∃ (nq' : Int), ∃ (zt' : Int → Int), (∃ C, cutR (tb mo) l lw w h C ∧ rep zt' nq' (C ++ Rs)) ∧ u = [(p0, oo 4 [.int (iI mk), .int (iI px), .int (iI py), .int (iI pa), .int (iI pb), .int (iI nw), .ref w1, .ref w2, .int (iI np), .ref w3, .int (iI nq'), .ref w4]), (w1, aI E 169 mo), (w3, aI E 576 zt')]) := by
  refine MV.of (cc := cX4_cutPinwheel) (maxL := 9) (own := RX4) (by decide) rfl rfl rfl (Nat.le_of_ble_eq_true rfl) [(0, .ref p0), (1, .int (iI l)), (2, .int (iI lw)), (3, .int (iI w)), (4, .int (iI h))] rfl ?_
  intro X hin2 hRet
  have hlen := rep_len hr
  refine g_aload_n 0 dX4_cutPinwheel_0 rfl rfl ?_
  refine g_get (C := RX4) (T := TX4) (N := 12) 0 5 (fun _ h => List.mem_cons_of_mem _ (List.mem_append_right _ h)) (List.mem_of_getElem? (i := 1) rfl) rfl rfl (by decide) rfl rfl dX4_cutPinwheel_1 ?_
  refine g_istore (lv1 := [(5, .int (iI nw)), (0, .ref p0), (1, .int (iI l)), (2, .int (iI lw)), (3, .int (iI w)), (4, .int (iI h))]) dX4_cutPinwheel_4 (by decide) rfl ?_
  refine g_lv (lv1 := [(0, .ref p0), (1, .int (iI l)), (2, .int (iI lw)), (3, .int (iI w)), (4, .int (iI h)), (5, .int (iI nw))]) [1, 2, 3, 4, 5, 0] rfl ?_
  have L6 : ∀ (nn : Nat) (x1 : Int) (hx1 : nw ≤ x1 ∧ x1 ≤ 12) (hI1 : aK nw w h (4096 * x1) (fun a b c d => cP (tb mo) w h a b c d ≠ tb mo w h)) (hm : 13 - x1 < (nn : Int)), G X ({ frames := 2, cells := 0, slots := 0, locals := 48 } : Room) cX4_cutPinwheel 9 RX4 wsX4_cutPinwheel E [] 0 0 [(p0, oo 4 [.int (iI mk), .int (iI px), .int (iI py), .int (iI pa), .int (iI pb), .int (iI nw), .ref w1, .ref w2, .int (iI np), .ref w3, .int (iI nq), .ref w4]), (w1, aI E 169 mo), (w3, aI E 576 zt)] [(0, .ref p0), (1, .int (iI l)), (2, .int (iI lw)), (3, .int (iI w)), (4, .int (iI h)), (5, .int (iI x1))] 6 [] := by
    intro nn
    induction nn with
    | zero => intro x1 hx1 hI1 hm; exfalso; omega
    | succ nn ih6 =>
      intro x1 hx1 hI1 hm
      refine g_iload 5 dX4_cutPinwheel_6 rfl ?_
      refine g_iload_n 3 dX4_cutPinwheel_8 rfl rfl ?_
      refine g_aload_n 0 dX4_cutPinwheel_9 rfl rfl ?_
      refine g_get (C := RX4) (T := TX4) (N := 12) 0 5 (fun _ h => List.mem_cons_of_mem _ (List.mem_append_right _ h)) (List.mem_of_getElem? (i := 1) rfl) rfl rfl (by decide) rfl rfl dX4_cutPinwheel_10 ?_
      refine g_isub dX4_cutPinwheel_13 ?_
      refine g_icmp_ge (tgt := 204) (by unfold R32; omega) (by unfold R32; omega) dX4_cutPinwheel_14 rfl (fun c_1 => ?_) (fun c_1 => ?_)
      · exact g_vret hRet dX4_cutPinwheel_204 ⟨nq, zt, (by exfalso; exact cut_n ⟨by omega, by omega⟩ hG hB hU hLv hm1 (fun a b c d hv => aK_e1 (by omega) (by omega) (by omega) (by omega) hI1 hv)), rfl⟩
      · refine g_iload 5 dX4_cutPinwheel_17 rfl ?_
        refine g_iconst dX4_cutPinwheel_19 ?_
        refine g_iadd dX4_cutPinwheel_20 ?_
        refine g_istore (lv1 := [(6, .int (iI (x1 + 1))), (0, .ref p0), (1, .int (iI l)), (2, .int (iI lw)), (3, .int (iI w)), (4, .int (iI h)), (5, .int (iI x1))]) dX4_cutPinwheel_21 (by decide) rfl ?_
        refine g_lv (lv1 := [(0, .ref p0), (1, .int (iI l)), (2, .int (iI lw)), (3, .int (iI w)), (4, .int (iI h)), (5, .int (iI x1)), (6, .int (iI (x1 + 1)))]) [1, 2, 3, 4, 5, 6, 0] rfl ?_
        have L23 : ∀ (nn : Nat) (x2 : Int) (hx2 : x1 < x2 ∧ x2 ≤ 13) (hI2 : aK nw w h (4096 * x1 + 256 * x2) (fun a b c d => cP (tb mo) w h a b c d ≠ tb mo w h)) (hm : 14 - x2 < (nn : Int)), G X ({ frames := 2, cells := 0, slots := 0, locals := 48 } : Room) cX4_cutPinwheel 9 RX4 wsX4_cutPinwheel E [] 0 0 [(p0, oo 4 [.int (iI mk), .int (iI px), .int (iI py), .int (iI pa), .int (iI pb), .int (iI nw), .ref w1, .ref w2, .int (iI np), .ref w3, .int (iI nq), .ref w4]), (w1, aI E 169 mo), (w3, aI E 576 zt)] [(0, .ref p0), (1, .int (iI l)), (2, .int (iI lw)), (3, .int (iI w)), (4, .int (iI h)), (5, .int (iI x1)), (6, .int (iI x2))] 23 [] := by
          intro nn
          induction nn with
          | zero => intro x2 hx2 hI2 hm; exfalso; omega
          | succ nn ih23 =>
            intro x2 hx2 hI2 hm
            refine g_iload 6 dX4_cutPinwheel_23 rfl ?_
            refine g_iload_n 3 dX4_cutPinwheel_25 rfl rfl ?_
            refine g_aload_n 0 dX4_cutPinwheel_26 rfl rfl ?_
            refine g_get (C := RX4) (T := TX4) (N := 12) 0 5 (fun _ h => List.mem_cons_of_mem _ (List.mem_append_right _ h)) (List.mem_of_getElem? (i := 1) rfl) rfl rfl (by decide) rfl rfl dX4_cutPinwheel_27 ?_
            refine g_isub dX4_cutPinwheel_30 ?_
            refine g_icmp_gt (tgt := 198) (by unfold R32; omega) (by unfold R32; omega) dX4_cutPinwheel_31 rfl (fun c_2 => ?_) (fun c_2 => ?_)
            · refine g_iinc (lv1 := [(5, .int (iI (x1 + 1))), (0, .ref p0), (1, .int (iI l)), (2, .int (iI lw)), (3, .int (iI w)), (4, .int (iI h)), (6, .int (iI x2))]) 5 dX4_cutPinwheel_198 rfl (by decide) rfl ?_
              refine g_goto (tgt := 6) dX4_cutPinwheel_201 rfl ?_
              refine g_lv (lv1 := [(0, .ref p0), (1, .int (iI l)), (2, .int (iI lw)), (3, .int (iI w)), (4, .int (iI h)), (5, .int (iI (x1 + 1)))]) [1, 2, 3, 4, 5, 0] rfl ?_
              exact ih6 (x1 + 1) (by omega) (by exact aK_e2 (by omega) (by omega) (by omega) (by omega) hI2) (by omega)
            · refine g_aload_n 0 dX4_cutPinwheel_34 rfl rfl ?_
              refine g_get (C := RX4) (T := TX4) (N := 12) 0 5 (fun _ h => List.mem_cons_of_mem _ (List.mem_append_right _ h)) (List.mem_of_getElem? (i := 1) rfl) rfl rfl (by decide) rfl rfl dX4_cutPinwheel_35 ?_
              refine g_istore (lv1 := [(7, .int (iI nw)), (0, .ref p0), (1, .int (iI l)), (2, .int (iI lw)), (3, .int (iI w)), (4, .int (iI h)), (5, .int (iI x1)), (6, .int (iI x2))]) dX4_cutPinwheel_38 (by decide) rfl ?_
              refine g_lv (lv1 := [(0, .ref p0), (1, .int (iI l)), (2, .int (iI lw)), (3, .int (iI w)), (4, .int (iI h)), (5, .int (iI x1)), (6, .int (iI x2)), (7, .int (iI nw))]) [1, 2, 3, 4, 5, 6, 7, 0] rfl ?_
              have L40 : ∀ (nn : Nat) (y1 : Int) (hx3 : nw ≤ y1 ∧ y1 ≤ 12) (hI3 : aK nw w h (4096 * x1 + 256 * x2 + 16 * y1) (fun a b c d => cP (tb mo) w h a b c d ≠ tb mo w h)) (hm : 13 - y1 < (nn : Int)), G X ({ frames := 2, cells := 0, slots := 0, locals := 48 } : Room) cX4_cutPinwheel 9 RX4 wsX4_cutPinwheel E [] 0 0 [(p0, oo 4 [.int (iI mk), .int (iI px), .int (iI py), .int (iI pa), .int (iI pb), .int (iI nw), .ref w1, .ref w2, .int (iI np), .ref w3, .int (iI nq), .ref w4]), (w1, aI E 169 mo), (w3, aI E 576 zt)] [(0, .ref p0), (1, .int (iI l)), (2, .int (iI lw)), (3, .int (iI w)), (4, .int (iI h)), (5, .int (iI x1)), (6, .int (iI x2)), (7, .int (iI y1))] 40 [] := by
                intro nn
                induction nn with
                | zero => intro y1 hx3 hI3 hm; exfalso; omega
                | succ nn ih40 =>
                  intro y1 hx3 hI3 hm
                  refine g_iload 7 dX4_cutPinwheel_40 rfl ?_
                  refine g_iload 4 dX4_cutPinwheel_42 rfl ?_
                  refine g_aload_n 0 dX4_cutPinwheel_44 rfl rfl ?_
                  refine g_get (C := RX4) (T := TX4) (N := 12) 0 5 (fun _ h => List.mem_cons_of_mem _ (List.mem_append_right _ h)) (List.mem_of_getElem? (i := 1) rfl) rfl rfl (by decide) rfl rfl dX4_cutPinwheel_45 ?_
                  refine g_isub dX4_cutPinwheel_48 ?_
                  refine g_icmp_ge (tgt := 192) (by unfold R32; omega) (by unfold R32; omega) dX4_cutPinwheel_49 rfl (fun c_3 => ?_) (fun c_3 => ?_)
                  · refine g_iinc (lv1 := [(6, .int (iI (x2 + 1))), (0, .ref p0), (1, .int (iI l)), (2, .int (iI lw)), (3, .int (iI w)), (4, .int (iI h)), (5, .int (iI x1)), (7, .int (iI y1))]) 6 dX4_cutPinwheel_192 rfl (by decide) rfl ?_
                    refine g_goto (tgt := 23) dX4_cutPinwheel_195 rfl ?_
                    refine g_lv (lv1 := [(0, .ref p0), (1, .int (iI l)), (2, .int (iI lw)), (3, .int (iI w)), (4, .int (iI h)), (5, .int (iI x1)), (6, .int (iI (x2 + 1)))]) [1, 2, 3, 4, 5, 6, 0] rfl ?_
                    exact ih23 (x2 + 1) (by omega) (by exact aK_e3 (by omega) (by omega) (by omega) (by omega) hI3) (by omega)
                  · refine g_iload 7 dX4_cutPinwheel_52 rfl ?_
                    refine g_iconst dX4_cutPinwheel_54 ?_
                    refine g_iadd dX4_cutPinwheel_55 ?_
                    refine g_istore (lv1 := [(8, .int (iI (y1 + 1))), (0, .ref p0), (1, .int (iI l)), (2, .int (iI lw)), (3, .int (iI w)), (4, .int (iI h)), (5, .int (iI x1)), (6, .int (iI x2)), (7, .int (iI y1))]) dX4_cutPinwheel_56 (by decide) rfl ?_
                    refine g_lv (lv1 := [(0, .ref p0), (1, .int (iI l)), (2, .int (iI lw)), (3, .int (iI w)), (4, .int (iI h)), (5, .int (iI x1)), (6, .int (iI x2)), (7, .int (iI y1)), (8, .int (iI (y1 + 1)))]) [1, 2, 3, 4, 5, 6, 7, 8, 0] rfl ?_
                    have L58 : ∀ (nn : Nat) (y2 : Int) (hx4 : y1 < y2 ∧ y2 ≤ 13) (hI4 : aK nw w h (4096 * x1 + 256 * x2 + 16 * y1 + y2) (fun a b c d => cP (tb mo) w h a b c d ≠ tb mo w h)) (hm : 14 - y2 < (nn : Int)), G X ({ frames := 2, cells := 0, slots := 0, locals := 48 } : Room) cX4_cutPinwheel 9 RX4 wsX4_cutPinwheel E [] 0 0 [(p0, oo 4 [.int (iI mk), .int (iI px), .int (iI py), .int (iI pa), .int (iI pb), .int (iI nw), .ref w1, .ref w2, .int (iI np), .ref w3, .int (iI nq), .ref w4]), (w1, aI E 169 mo), (w3, aI E 576 zt)] [(0, .ref p0), (1, .int (iI l)), (2, .int (iI lw)), (3, .int (iI w)), (4, .int (iI h)), (5, .int (iI x1)), (6, .int (iI x2)), (7, .int (iI y1)), (8, .int (iI y2))] 58 [] := by
                      intro nn
                      induction nn with
                      | zero => intro y2 hx4 hI4 hm; exfalso; omega
                      | succ nn ih58 =>
                        intro y2 hx4 hI4 hm
                        refine g_iload 8 dX4_cutPinwheel_58 rfl ?_
                        refine g_iload 4 dX4_cutPinwheel_60 rfl ?_
                        refine g_aload_n 0 dX4_cutPinwheel_62 rfl rfl ?_
                        refine g_get (C := RX4) (T := TX4) (N := 12) 0 5 (fun _ h => List.mem_cons_of_mem _ (List.mem_append_right _ h)) (List.mem_of_getElem? (i := 1) rfl) rfl rfl (by decide) rfl rfl dX4_cutPinwheel_63 ?_
                        refine g_isub dX4_cutPinwheel_66 ?_
                        refine g_icmp_gt (tgt := 186) (by unfold R32; omega) (by unfold R32; omega) dX4_cutPinwheel_67 rfl (fun c_4 => ?_) (fun c_4 => ?_)
                        · refine g_iinc (lv1 := [(7, .int (iI (y1 + 1))), (0, .ref p0), (1, .int (iI l)), (2, .int (iI lw)), (3, .int (iI w)), (4, .int (iI h)), (5, .int (iI x1)), (6, .int (iI x2)), (8, .int (iI y2))]) 7 dX4_cutPinwheel_186 rfl (by decide) rfl ?_
                          refine g_goto (tgt := 40) dX4_cutPinwheel_189 rfl ?_
                          refine g_lv (lv1 := [(0, .ref p0), (1, .int (iI l)), (2, .int (iI lw)), (3, .int (iI w)), (4, .int (iI h)), (5, .int (iI x1)), (6, .int (iI x2)), (7, .int (iI (y1 + 1)))]) [1, 2, 3, 4, 5, 6, 7, 0] rfl ?_
                          exact ih40 (y1 + 1) (by omega) (by exact aK_e4 (by omega) (by omega) (by omega) (by omega) hI4) (by omega)
                        · refine g_aload_n 0 dX4_cutPinwheel_70 rfl rfl ?_
                          refine g_iload_n 3 dX4_cutPinwheel_71 rfl rfl ?_
                          refine g_iload 4 dX4_cutPinwheel_72 rfl ?_
                          refine g_iload 5 dX4_cutPinwheel_74 rfl ?_
                          refine g_iload 6 dX4_cutPinwheel_76 rfl ?_
                          refine g_iload 7 dX4_cutPinwheel_78 rfl ?_
                          refine g_iload 8 dX4_cutPinwheel_80 rfl ?_
                          refine g_callV_i (n := 6) (As := [.int (iI w), .int (iI h), .int (iI x1), .int (iI x2), .int (iI y1), .int (iI y2)]) (wr := [(w3, aI E 576 zt)]) (C := RX4) [] (c_X4_byPinwheel E p0 w1 w2 w3 w4 mk px py pa pb nw np nq mo w h x1 x2 y1 y2 (by omega) (by omega) (by unfold vN; omega)) [0, 1] [2] 0 rfl rfl gX4_cutPinwheel_X4_byPinwheel rfl ⟨rfl, by decide +kernel⟩ ⟨by decide, by decide⟩ rfl rfl rfl rfl rfl (by decide) rfl (by decide) (by decide) (fun _ h => absurd h List.not_mem_nil) dX4_cutPinwheel_82 rfl (Nat.le_of_ble_eq_true rfl) ⟨by decide, by decide⟩ (fun r u p_5 => ?_)
                          obtain ⟨rfl, rfl⟩ := p_5
                          refine g_perm (ws1 := [(p0, oo 4 [.int (iI mk), .int (iI px), .int (iI py), .int (iI pa), .int (iI pb), .int (iI nw), .ref w1, .ref w2, .int (iI np), .ref w3, .int (iI nq), .ref w4]), (w1, aI E 169 mo), (w3, aI E 576 zt)]) [1, 2, 0] rfl (by decide) rfl ?_
                          have hcp := cP_b hmo w h x1 x2 y1 y2
                          refine g_aload_n 0 dX4_cutPinwheel_85 rfl rfl ?_
                          refine g_iload_n 3 dX4_cutPinwheel_86 rfl rfl ?_
                          refine g_iload 4 dX4_cutPinwheel_87 rfl ?_
                          refine g_callV_i (n := 2) (As := [.int (iI w), .int (iI h)]) (wr := [(w3, aI E 576 zt)]) (C := RX4) [.int (iI (cP (tb mo) w h x1 x2 y1 y2))] (c_X4_mostOf E p0 w1 w2 w3 w4 mk px py pa pb nw np nq mo w h (by omega) (by omega)) [0, 1] [2] 0 rfl rfl gX4_cutPinwheel_X4_mostOf rfl ⟨rfl, by decide +kernel⟩ ⟨by decide, by decide⟩ rfl rfl rfl rfl rfl (by decide) rfl (by decide) (by decide) (fun _ h => absurd h List.not_mem_nil) dX4_cutPinwheel_89 rfl (Nat.le_of_ble_eq_true rfl) ⟨by decide, by decide⟩ (fun r u p_6 => ?_)
                          obtain ⟨rfl, rfl⟩ := p_6
                          refine g_perm (ws1 := [(p0, oo 4 [.int (iI mk), .int (iI px), .int (iI py), .int (iI pa), .int (iI pb), .int (iI nw), .ref w1, .ref w2, .int (iI np), .ref w3, .int (iI nq), .ref w4]), (w1, aI E 169 mo), (w3, aI E 576 zt)]) [1, 2, 0] rfl (by decide) rfl ?_
                          have hmw := tb_b hmo w h
                          refine g_icmp_ne (tgt := 180) (by unfold R32; omega) (by unfold R32; omega) dX4_cutPinwheel_92 rfl (fun hne => ?_) (fun hne => ?_)
                          · have hw2 := mul_ge (w := w) (h := h) (p := 3) (q := 3) (by omega) (by omega) (by omega) (by omega)
                            refine g_aload_n 0 dX4_cutPinwheel_95 rfl rfl ?_
                            refine g_iload_n 1 dX4_cutPinwheel_96 rfl rfl ?_
                            refine g_iload 5 dX4_cutPinwheel_97 rfl ?_
                            refine g_iadd dX4_cutPinwheel_99 ?_
                            refine g_iload_n 2 dX4_cutPinwheel_100 rfl rfl ?_
                            refine g_iload 7 dX4_cutPinwheel_101 rfl ?_
                            refine g_iadd dX4_cutPinwheel_103 ?_
                            refine g_iload 6 dX4_cutPinwheel_104 rfl ?_
                            refine g_iload 5 dX4_cutPinwheel_106 rfl ?_
                            refine g_isub dX4_cutPinwheel_108 ?_
                            refine g_iload 8 dX4_cutPinwheel_109 rfl ?_
                            refine g_iload 7 dX4_cutPinwheel_111 rfl ?_
                            refine g_isub dX4_cutPinwheel_113 ?_
                            refine g_callV_v (n := 4) (As := [.int (iI (l + x1)), .int (iI (lw + y1)), .int (iI (x2 - x1)), .int (iI (y2 - y1))]) (wr := [(w1, aI E 169 mo)]) (C := RX4) [] (c_X4_putPart E p0 w1 w2 w3 w4 mk px py pa pb nw np nq zt (l + x1) (lw + y1) (x2 - x1) (y2 - y1) (by omega)) [0, 2] [1] 0 rfl rfl gX4_cutPinwheel_X4_putPart rfl ⟨rfl, by decide +kernel⟩ ⟨by decide, by decide⟩ rfl rfl rfl rfl rfl (by decide) rfl (by decide) (by decide) (fun _ h => absurd h List.not_mem_nil) dX4_cutPinwheel_114 rfl (Nat.le_of_ble_eq_true rfl) ⟨by decide, by decide⟩ (fun u p_7 => ?_)
                            subst p_7
                            refine g_perm (ws1 := [(p0, oo 4 [.int (iI mk), .int (iI px), .int (iI py), .int (iI pa), .int (iI pb), .int (iI nw), .ref w1, .ref w2, .int (iI np), .ref w3, .int (iI (nq + 1)), .ref w4]), (w1, aI E 169 mo), (w3, aI E 576 (up (up (up (up zt (4 * nq) (l + x1)) (4 * nq + 1) (lw + y1)) (4 * nq + 2) (x2 - x1)) (4 * nq + 3) (y2 - y1)))]) [1, 0, 2] rfl (by decide) rfl ?_
                            refine g_aload_n 0 dX4_cutPinwheel_117 rfl rfl ?_
                            refine g_iload_n 1 dX4_cutPinwheel_118 rfl rfl ?_
                            refine g_iload_n 2 dX4_cutPinwheel_119 rfl rfl ?_
                            refine g_iload 8 dX4_cutPinwheel_120 rfl ?_
                            refine g_iadd dX4_cutPinwheel_122 ?_
                            refine g_iload 6 dX4_cutPinwheel_123 rfl ?_
                            refine g_iload 4 dX4_cutPinwheel_125 rfl ?_
                            refine g_iload 8 dX4_cutPinwheel_127 rfl ?_
                            refine g_isub dX4_cutPinwheel_129 ?_
                            refine g_callV_v (n := 4) (As := [.int (iI l), .int (iI (lw + y2)), .int (iI x2), .int (iI (h - y2))]) (wr := [(w1, aI E 169 mo)]) (C := RX4) [] (c_X4_putPart E p0 w1 w2 w3 w4 mk px py pa pb nw np (nq + 1) (up (up (up (up zt (4 * nq) (l + x1)) (4 * nq + 1) (lw + y1)) (4 * nq + 2) (x2 - x1)) (4 * nq + 3) (y2 - y1)) l (lw + y2) x2 (h - y2) (by omega)) [0, 2] [1] 0 rfl rfl gX4_cutPinwheel_X4_putPart rfl ⟨rfl, by decide +kernel⟩ ⟨by decide, by decide⟩ rfl rfl rfl rfl rfl (by decide) rfl (by decide) (by decide) (fun _ h => absurd h List.not_mem_nil) dX4_cutPinwheel_130 rfl (Nat.le_of_ble_eq_true rfl) ⟨by decide, by decide⟩ (fun u p_8 => ?_)
                            subst p_8
                            refine g_perm (ws1 := [(p0, oo 4 [.int (iI mk), .int (iI px), .int (iI py), .int (iI pa), .int (iI pb), .int (iI nw), .ref w1, .ref w2, .int (iI np), .ref w3, .int (iI ((nq + 1) + 1)), .ref w4]), (w1, aI E 169 mo), (w3, aI E 576 (up (up (up (up (up (up (up (up zt (4 * nq) (l + x1)) (4 * nq + 1) (lw + y1)) (4 * nq + 2) (x2 - x1)) (4 * nq + 3) (y2 - y1)) (4 * (nq + 1)) l) (4 * (nq + 1) + 1) (lw + y2)) (4 * (nq + 1) + 2) x2) (4 * (nq + 1) + 3) (h - y2)))]) [1, 0, 2] rfl (by decide) rfl ?_
                            refine g_aload_n 0 dX4_cutPinwheel_133 rfl rfl ?_
                            refine g_iload_n 1 dX4_cutPinwheel_134 rfl rfl ?_
                            refine g_iload 6 dX4_cutPinwheel_135 rfl ?_
                            refine g_iadd dX4_cutPinwheel_137 ?_
                            refine g_iload_n 2 dX4_cutPinwheel_138 rfl rfl ?_
                            refine g_iload 7 dX4_cutPinwheel_139 rfl ?_
                            refine g_iadd dX4_cutPinwheel_141 ?_
                            refine g_iload_n 3 dX4_cutPinwheel_142 rfl rfl ?_
                            refine g_iload 6 dX4_cutPinwheel_143 rfl ?_
                            refine g_isub dX4_cutPinwheel_145 ?_
                            refine g_iload 4 dX4_cutPinwheel_146 rfl ?_
                            refine g_iload 7 dX4_cutPinwheel_148 rfl ?_
                            refine g_isub dX4_cutPinwheel_150 ?_
                            refine g_callV_v (n := 4) (As := [.int (iI (l + x2)), .int (iI (lw + y1)), .int (iI (w - x2)), .int (iI (h - y1))]) (wr := [(w1, aI E 169 mo)]) (C := RX4) [] (c_X4_putPart E p0 w1 w2 w3 w4 mk px py pa pb nw np ((nq + 1) + 1) (up (up (up (up (up (up (up (up zt (4 * nq) (l + x1)) (4 * nq + 1) (lw + y1)) (4 * nq + 2) (x2 - x1)) (4 * nq + 3) (y2 - y1)) (4 * (nq + 1)) l) (4 * (nq + 1) + 1) (lw + y2)) (4 * (nq + 1) + 2) x2) (4 * (nq + 1) + 3) (h - y2)) (l + x2) (lw + y1) (w - x2) (h - y1) (by omega)) [0, 2] [1] 0 rfl rfl gX4_cutPinwheel_X4_putPart rfl ⟨rfl, by decide +kernel⟩ ⟨by decide, by decide⟩ rfl rfl rfl rfl rfl (by decide) rfl (by decide) (by decide) (fun _ h => absurd h List.not_mem_nil) dX4_cutPinwheel_151 rfl (Nat.le_of_ble_eq_true rfl) ⟨by decide, by decide⟩ (fun u p_9 => ?_)
                            subst p_9
                            refine g_perm (ws1 := [(p0, oo 4 [.int (iI mk), .int (iI px), .int (iI py), .int (iI pa), .int (iI pb), .int (iI nw), .ref w1, .ref w2, .int (iI np), .ref w3, .int (iI (((nq + 1) + 1) + 1)), .ref w4]), (w1, aI E 169 mo), (w3, aI E 576 (up (up (up (up (up (up (up (up (up (up (up (up zt (4 * nq) (l + x1)) (4 * nq + 1) (lw + y1)) (4 * nq + 2) (x2 - x1)) (4 * nq + 3) (y2 - y1)) (4 * (nq + 1)) l) (4 * (nq + 1) + 1) (lw + y2)) (4 * (nq + 1) + 2) x2) (4 * (nq + 1) + 3) (h - y2)) (4 * ((nq + 1) + 1)) (l + x2)) (4 * ((nq + 1) + 1) + 1) (lw + y1)) (4 * ((nq + 1) + 1) + 2) (w - x2)) (4 * ((nq + 1) + 1) + 3) (h - y1)))]) [1, 0, 2] rfl (by decide) rfl ?_
                            refine g_aload_n 0 dX4_cutPinwheel_154 rfl rfl ?_
                            refine g_iload_n 1 dX4_cutPinwheel_155 rfl rfl ?_
                            refine g_iload 5 dX4_cutPinwheel_156 rfl ?_
                            refine g_iadd dX4_cutPinwheel_158 ?_
                            refine g_iload_n 2 dX4_cutPinwheel_159 rfl rfl ?_
                            refine g_iload_n 3 dX4_cutPinwheel_160 rfl rfl ?_
                            refine g_iload 5 dX4_cutPinwheel_161 rfl ?_
                            refine g_isub dX4_cutPinwheel_163 ?_
                            refine g_iload 7 dX4_cutPinwheel_164 rfl ?_
                            refine g_callV_v (n := 4) (As := [.int (iI (l + x1)), .int (iI lw), .int (iI (w - x1)), .int (iI y1)]) (wr := [(w1, aI E 169 mo)]) (C := RX4) [] (c_X4_putPart E p0 w1 w2 w3 w4 mk px py pa pb nw np (((nq + 1) + 1) + 1) (up (up (up (up (up (up (up (up (up (up (up (up zt (4 * nq) (l + x1)) (4 * nq + 1) (lw + y1)) (4 * nq + 2) (x2 - x1)) (4 * nq + 3) (y2 - y1)) (4 * (nq + 1)) l) (4 * (nq + 1) + 1) (lw + y2)) (4 * (nq + 1) + 2) x2) (4 * (nq + 1) + 3) (h - y2)) (4 * ((nq + 1) + 1)) (l + x2)) (4 * ((nq + 1) + 1) + 1) (lw + y1)) (4 * ((nq + 1) + 1) + 2) (w - x2)) (4 * ((nq + 1) + 1) + 3) (h - y1)) (l + x1) lw (w - x1) y1 (by omega)) [0, 2] [1] 0 rfl rfl gX4_cutPinwheel_X4_putPart rfl ⟨rfl, by decide +kernel⟩ ⟨by decide, by decide⟩ rfl rfl rfl rfl rfl (by decide) rfl (by decide) (by decide) (fun _ h => absurd h List.not_mem_nil) dX4_cutPinwheel_166 rfl (Nat.le_of_ble_eq_true rfl) ⟨by decide, by decide⟩ (fun u p_10 => ?_)
                            subst p_10
                            refine g_perm (ws1 := [(p0, oo 4 [.int (iI mk), .int (iI px), .int (iI py), .int (iI pa), .int (iI pb), .int (iI nw), .ref w1, .ref w2, .int (iI np), .ref w3, .int (iI ((((nq + 1) + 1) + 1) + 1)), .ref w4]), (w1, aI E 169 mo), (w3, aI E 576 (up (up (up (up (up (up (up (up (up (up (up (up (up (up (up (up zt (4 * nq) (l + x1)) (4 * nq + 1) (lw + y1)) (4 * nq + 2) (x2 - x1)) (4 * nq + 3) (y2 - y1)) (4 * (nq + 1)) l) (4 * (nq + 1) + 1) (lw + y2)) (4 * (nq + 1) + 2) x2) (4 * (nq + 1) + 3) (h - y2)) (4 * ((nq + 1) + 1)) (l + x2)) (4 * ((nq + 1) + 1) + 1) (lw + y1)) (4 * ((nq + 1) + 1) + 2) (w - x2)) (4 * ((nq + 1) + 1) + 3) (h - y1)) (4 * (((nq + 1) + 1) + 1)) (l + x1)) (4 * (((nq + 1) + 1) + 1) + 1) lw) (4 * (((nq + 1) + 1) + 1) + 2) (w - x1)) (4 * (((nq + 1) + 1) + 1) + 3) y1))]) [1, 0, 2] rfl (by decide) rfl ?_
                            refine g_aload_n 0 dX4_cutPinwheel_169 rfl rfl ?_
                            refine g_iload_n 1 dX4_cutPinwheel_170 rfl rfl ?_
                            refine g_iload_n 2 dX4_cutPinwheel_171 rfl rfl ?_
                            refine g_iload 5 dX4_cutPinwheel_172 rfl ?_
                            refine g_iload 8 dX4_cutPinwheel_174 rfl ?_
                            refine g_callV_v (n := 4) (As := [.int (iI l), .int (iI lw), .int (iI x1), .int (iI y2)]) (wr := [(w1, aI E 169 mo)]) (C := RX4) [] (c_X4_putPart E p0 w1 w2 w3 w4 mk px py pa pb nw np ((((nq + 1) + 1) + 1) + 1) (up (up (up (up (up (up (up (up (up (up (up (up (up (up (up (up zt (4 * nq) (l + x1)) (4 * nq + 1) (lw + y1)) (4 * nq + 2) (x2 - x1)) (4 * nq + 3) (y2 - y1)) (4 * (nq + 1)) l) (4 * (nq + 1) + 1) (lw + y2)) (4 * (nq + 1) + 2) x2) (4 * (nq + 1) + 3) (h - y2)) (4 * ((nq + 1) + 1)) (l + x2)) (4 * ((nq + 1) + 1) + 1) (lw + y1)) (4 * ((nq + 1) + 1) + 2) (w - x2)) (4 * ((nq + 1) + 1) + 3) (h - y1)) (4 * (((nq + 1) + 1) + 1)) (l + x1)) (4 * (((nq + 1) + 1) + 1) + 1) lw) (4 * (((nq + 1) + 1) + 1) + 2) (w - x1)) (4 * (((nq + 1) + 1) + 1) + 3) y1) l lw x1 y2 (by omega)) [0, 2] [1] 0 rfl rfl gX4_cutPinwheel_X4_putPart rfl ⟨rfl, by decide +kernel⟩ ⟨by decide, by decide⟩ rfl rfl rfl rfl rfl (by decide) rfl (by decide) (by decide) (fun _ h => absurd h List.not_mem_nil) dX4_cutPinwheel_176 rfl (Nat.le_of_ble_eq_true rfl) ⟨by decide, by decide⟩ (fun u p_11 => ?_)
                            subst p_11
                            refine g_perm (ws1 := [(p0, oo 4 [.int (iI mk), .int (iI px), .int (iI py), .int (iI pa), .int (iI pb), .int (iI nw), .ref w1, .ref w2, .int (iI np), .ref w3, .int (iI (((((nq + 1) + 1) + 1) + 1) + 1)), .ref w4]), (w1, aI E 169 mo), (w3, aI E 576 (up (up (up (up (up (up (up (up (up (up (up (up (up (up (up (up (up (up (up (up zt (4 * nq) (l + x1)) (4 * nq + 1) (lw + y1)) (4 * nq + 2) (x2 - x1)) (4 * nq + 3) (y2 - y1)) (4 * (nq + 1)) l) (4 * (nq + 1) + 1) (lw + y2)) (4 * (nq + 1) + 2) x2) (4 * (nq + 1) + 3) (h - y2)) (4 * ((nq + 1) + 1)) (l + x2)) (4 * ((nq + 1) + 1) + 1) (lw + y1)) (4 * ((nq + 1) + 1) + 2) (w - x2)) (4 * ((nq + 1) + 1) + 3) (h - y1)) (4 * (((nq + 1) + 1) + 1)) (l + x1)) (4 * (((nq + 1) + 1) + 1) + 1) lw) (4 * (((nq + 1) + 1) + 1) + 2) (w - x1)) (4 * (((nq + 1) + 1) + 1) + 3) y1) (4 * ((((nq + 1) + 1) + 1) + 1)) l) (4 * ((((nq + 1) + 1) + 1) + 1) + 1) lw) (4 * ((((nq + 1) + 1) + 1) + 1) + 2) x1) (4 * ((((nq + 1) + 1) + 1) + 1) + 3) y2))]) [1, 0, 2] rfl (by decide) rfl ?_
                            exact g_vret hRet dX4_cutPinwheel_179 ⟨(((((nq + 1) + 1) + 1) + 1) + 1), (up (up (up (up (up (up (up (up (up (up (up (up (up (up (up (up (up (up (up (up zt (4 * nq) (l + x1)) (4 * nq + 1) (lw + y1)) (4 * nq + 2) (x2 - x1)) (4 * nq + 3) (y2 - y1)) (4 * (nq + 1)) l) (4 * (nq + 1) + 1) (lw + y2)) (4 * (nq + 1) + 2) x2) (4 * (nq + 1) + 3) (h - y2)) (4 * ((nq + 1) + 1)) (l + x2)) (4 * ((nq + 1) + 1) + 1) (lw + y1)) (4 * ((nq + 1) + 1) + 2) (w - x2)) (4 * ((nq + 1) + 1) + 3) (h - y1)) (4 * (((nq + 1) + 1) + 1)) (l + x1)) (4 * (((nq + 1) + 1) + 1) + 1) lw) (4 * (((nq + 1) + 1) + 1) + 2) (w - x1)) (4 * (((nq + 1) + 1) + 1) + 3) y1) (4 * ((((nq + 1) + 1) + 1) + 1)) l) (4 * ((((nq + 1) + 1) + 1) + 1) + 1) lw) (4 * ((((nq + 1) + 1) + 1) + 1) + 2) x1) (4 * ((((nq + 1) + 1) + 1) + 1) + 3) y2), (by exact ⟨_, cut_w ⟨by omega, by omega⟩ (by omega) hG hB hU hLv (by unfold vN; omega) hne hI4, rep_push (rep_push (rep_push (rep_push (rep_push hr _ _ _ _) _ _ _ _) _ _ _ _) _ _ _ _) _ _ _ _⟩), rfl⟩
                          · refine g_iinc (lv1 := [(8, .int (iI (y2 + 1))), (0, .ref p0), (1, .int (iI l)), (2, .int (iI lw)), (3, .int (iI w)), (4, .int (iI h)), (5, .int (iI x1)), (6, .int (iI x2)), (7, .int (iI y1))]) 8 dX4_cutPinwheel_180 rfl (by decide) rfl ?_
                            refine g_goto (tgt := 58) dX4_cutPinwheel_183 rfl ?_
                            refine g_lv (lv1 := [(0, .ref p0), (1, .int (iI l)), (2, .int (iI lw)), (3, .int (iI w)), (4, .int (iI h)), (5, .int (iI x1)), (6, .int (iI x2)), (7, .int (iI y1)), (8, .int (iI (y2 + 1)))]) [1, 2, 3, 4, 5, 6, 7, 8, 0] rfl ?_
                            exact ih58 (y2 + 1) (by omega) (by exact aK_s (by omega) (by omega) (by omega) (by omega) hI4 (fun _ _ _ _ q => q) hne) (by omega)
                    exact L58 _ (y1 + 1) (by omega) (by exact aK_y2 (by omega) (by omega) (by omega) (by omega) hI3) (lt_nn _)
              exact L40 _ nw (by omega) (by exact aK_y1 (by omega) (by omega) (by omega) hI2) (lt_nn _)
        exact L23 _ (x1 + 1) (by omega) (by exact aK_x2 (by omega) (by omega) (by omega) hI1) (lt_nn _)
  exact L6 _ nw (by omega) (by exact aK_0 (by omega) (by omega) (by omega)) (lt_nn _)

set_option maxHeartbeats 4000000 in
set_option maxRecDepth 100000 in
theorem c_X4_layPart (E : Ev) (p0 : Nat) (w1 : Nat) (w2 : Nat) (w3 : Nat) (w4 : Nat) (mk : Int) (px : Int) (py : Int) (pa : Int) (pb : Int) (nw : Int) (np : Int) (nq : Int) (mo : Int → Int) (zt : Int → Int) (zc : Int → Int) (l : Int) (lw : Int) (w : Int) (h : Int) (Rs : List Qd) (Ps : List Qd) (hxy : (1 ≤ px ∧ px ≤ 12) ∧ 1 ≤ py ∧ py ≤ 12) (hab : (1 ≤ pa ∧ pa ≤ 12) ∧ 1 ≤ pb ∧ pb ≤ 12) (hn : 1 ≤ nw ∧ nw ≤ pa ∧ nw ≤ pb) (hmo : ∀ k, 0 ≤ mo k ∧ mo k ≤ 144) (hT : gT pa pb (tb mo) px py) (hw : 1 ≤ w ∧ w ≤ px) (hh : 1 ≤ h ∧ h ≤ py) (hr : rep zt nq Rs) (har : nq + w * h ≤ 144) (hrc : rep zc np Ps) (hnp : np < 144) : MV yX4_layPart wsX4_layPart ({ frames := 3, cells := 0, slots := 0, locals := 76 } : Room) E [] 0 0 [.ref p0, .int (iI l), .int (iI lw), .int (iI w), .int (iI h)] [(p0, oo 4 [.int (iI mk), .int (iI px), .int (iI py), .int (iI pa), .int (iI pb), .int (iI nw), .ref w1, .ref w2, .int (iI np), .ref w3, .int (iI nq), .ref w4]), (w1, aI E 169 mo), (w3, aI E 576 zt), (w2, aI E 576 zc)] (fun u => ∃ (nq' : Int), ∃ (np' : Int), ∃ (zt' : Int → Int), ∃ (zc' : Int → Int), (∃ L' P', stp pa pb (tb mo) ((l, lw, w, h) :: Rs) Ps L' P' ∧ rep zt' nq' L' ∧ rep zc' np' P') ∧ u = [(p0, oo 4 [.int (iI mk), .int (iI px), .int (iI py), .int (iI pa), .int (iI pb), .int (iI nw), .ref w1, .ref w2, .int (iI np'), .ref w3, .int (iI nq'), .ref w4]), (w1, aI E 169 mo), (w3, aI E 576 zt'), (w2, aI E 576 zc')]) := by
  refine MV.of (cc := cX4_layPart) (maxL := 6) (own := RX4) (by decide) rfl rfl rfl (Nat.le_of_ble_eq_true rfl) [(0, .ref p0), (1, .int (iI l)), (2, .int (iI lw)), (3, .int (iI w)), (4, .int (iI h))] rfl ?_
  intro X hin2 hRet
  have hlen := rep_len hr
  have hlenc := rep_len hrc
  have hB := hT w h (by omega) (by omega) (by omega) (by omega)
  have hG := gT_g hT (w := w) (h := h) (by omega) (by omega)
  refine g_aload_n 0 dX4_layPart_0 rfl rfl ?_
  refine g_iload_n 3 dX4_layPart_1 rfl rfl ?_
  refine g_iload 4 dX4_layPart_2 rfl ?_
  refine g_callV_i (n := 2) (As := [.int (iI w), .int (iI h)]) (wr := [(w3, aI E 576 zt), (w2, aI E 576 zc)]) (C := RX4) [] (c_X4_mostOf E p0 w1 w2 w3 w4 mk px py pa pb nw np nq mo w h (by omega) (by omega)) [0, 1] [2, 3] 0 rfl rfl gX4_layPart_X4_mostOf rfl ⟨rfl, by decide +kernel⟩ ⟨by decide, by decide⟩ rfl rfl rfl rfl rfl (by decide) rfl (by decide) (by decide) (fun _ h => absurd h List.not_mem_nil) dX4_layPart_4 rfl (Nat.le_of_ble_eq_true rfl) ⟨by decide, by decide⟩ (fun r u p_1 => ?_)
  obtain ⟨rfl, rfl⟩ := p_1
  refine g_perm (ws1 := [(p0, oo 4 [.int (iI mk), .int (iI px), .int (iI py), .int (iI pa), .int (iI pb), .int (iI nw), .ref w1, .ref w2, .int (iI np), .ref w3, .int (iI nq), .ref w4]), (w1, aI E 169 mo), (w3, aI E 576 zt), (w2, aI E 576 zc)]) [2, 3, 0, 1] rfl (by decide) rfl ?_
  have hmw := tb_b hmo w h
  refine g_istore (lv1 := [(5, .int (iI (tb mo w h))), (0, .ref p0), (1, .int (iI l)), (2, .int (iI lw)), (3, .int (iI w)), (4, .int (iI h))]) dX4_layPart_7 (by decide) rfl ?_
  refine g_iload 0 dX4_layPart_9 rfl ?_
  refine g_iconst dX4_layPart_11 ?_
  refine g_icmp_ne (tgt := 38) (by unfold R32; omega) (by unfold R32; omega) dX4_layPart_12 rfl (fun hm1 => ?_) (fun hm1 => ?_)
  · refine g_aload_n 1 dX4_layPart_15 rfl rfl ?_
    refine g_iload_n 2 dX4_layPart_16 rfl rfl ?_
    refine g_iload_n 3 dX4_layPart_17 rfl rfl ?_
    refine g_aload_n 1 dX4_layPart_18 rfl rfl ?_
    refine g_get (C := RX4) (T := TX4) (N := 12) 0 3 (fun _ h => List.mem_cons_of_mem _ (List.mem_append_right _ h)) (List.mem_of_getElem? (i := 1) rfl) rfl rfl (by decide) rfl rfl dX4_layPart_19 ?_
    refine g_aload_n 1 dX4_layPart_22 rfl rfl ?_
    refine g_get (C := RX4) (T := TX4) (N := 12) 0 4 (fun _ h => List.mem_cons_of_mem _ (List.mem_append_right _ h)) (List.mem_of_getElem? (i := 2) rfl) rfl rfl (by decide) rfl rfl dX4_layPart_23 ?_
    refine g_iload_n 4 dX4_layPart_26 rfl rfl ?_
    refine g_iload 5 dX4_layPart_27 rfl ?_
    refine g_callS_i (n := 4) (As := [.int (iI pa), .int (iI pb), .int (iI w), .int (iI h)]) (wr := [(p0, oo 4 [.int (iI mk), .int (iI px), .int (iI py), .int (iI pa), .int (iI pb), .int (iI nw), .ref w1, .ref w2, .int (iI np), .ref w3, .int (iI nq), .ref w4]), (w1, aI E 169 mo), (w3, aI E 576 zt), (w2, aI E 576 zc)]) [.int (iI lw), .int (iI l), .ref p0] (c_X4_fits E pa pb w h (by omega) (by omega) (by omega) (by omega)) [] [0, 1, 2, 3] gX4_layPart_X4_fits rfl ⟨rfl, by decide +kernel⟩ ⟨by decide, by decide⟩ rfl rfl rfl rfl rfl (by decide) rfl (by decide) (by decide) (fun _ h => absurd h List.not_mem_nil) dX4_layPart_29 rfl (Nat.le_of_ble_eq_true rfl) ⟨by decide, by decide⟩ (fun r u p_2 => ?_)
    obtain ⟨rfl, rfl⟩ := p_2
    refine g_perm (ws1 := [(p0, oo 4 [.int (iI mk), .int (iI px), .int (iI py), .int (iI pa), .int (iI pb), .int (iI nw), .ref w1, .ref w2, .int (iI np), .ref w3, .int (iI nq), .ref w4]), (w1, aI E 169 mo), (w3, aI E 576 zt), (w2, aI E 576 zc)]) [0, 1, 2, 3] rfl (by decide) rfl ?_
    refine g_callV_v (n := 3) (As := [.int (iI l), .int (iI lw), .int (iI (bI (pa ≤ w ∧ pb ≤ h)))]) (wr := [(w1, aI E 169 mo), (w3, aI E 576 zt)]) (C := RX4) [] (c_X4_layCase E p0 w1 w2 w3 w4 mk px py pa pb nw np nq zc l lw (bI (pa ≤ w ∧ pb ≤ h)) (by omega) (by exact bI_01 _)) [0, 3] [1, 2] 0 rfl rfl gX4_layPart_X4_layCase rfl ⟨rfl, by decide +kernel⟩ ⟨by decide, by decide⟩ rfl rfl rfl rfl rfl (by decide) rfl (by decide) (by decide) (fun _ h => absurd h List.not_mem_nil) dX4_layPart_32 rfl (Nat.le_of_ble_eq_true rfl) ⟨by decide, by decide⟩ (fun u p_3 => ?_)
    obtain ⟨zc1, fc, rfl⟩ := p_3
    refine g_perm (ws1 := [(p0, oo 4 [.int (iI mk), .int (iI px), .int (iI py), .int (iI pa), .int (iI pb), .int (iI nw), .ref w1, .ref w2, .int (iI (np + 1)), .ref w3, .int (iI nq), .ref w4]), (w1, aI E 169 mo), (w3, aI E 576 zt), (w2, aI E 576 zc1)]) [2, 0, 1, 3] rfl (by decide) rfl ?_
    refine g_goto (tgt := 77) dX4_layPart_35 rfl ?_
    exact g_vret hRet dX4_layPart_77 ⟨nq, (np + 1), zt, zc1, (by first | (obtain ⟨C, hC1, hC2⟩ := fp; exact ⟨_, _, ⟨l, lw, w, h, Rs, rfl, Or.inr (Or.inl ⟨by omega, rfl, C, hC1, rfl⟩)⟩, hC2, hrc⟩) | (rcases fl with ⟨-, C, hC1, hC2⟩ | ⟨q, -⟩; exact ⟨_, _, ⟨l, lw, w, h, Rs, rfl, Or.inr (Or.inl ⟨by omega, rfl, C, hC1, rfl⟩)⟩, hC2, hrc⟩; omega) | (rcases fu with ⟨-, C, hC1, hC2⟩ | ⟨q, -⟩; exact ⟨_, _, ⟨l, lw, w, h, Rs, rfl, Or.inr (Or.inl ⟨by omega, rfl, C, hC1, rfl⟩)⟩, hC2, hrc⟩; omega) | (refine ⟨_, _, ⟨l, lw, w, h, Rs, rfl, Or.inl ⟨hm1, rfl, rfl⟩⟩, hr, ?_⟩; rw [fc, bI_if, bI_if]; exact rep_push hrc _ _ _ _) | (exact ⟨_, _, ⟨l, lw, w, h, Rs, rfl, Or.inr (Or.inr ⟨by omega, rfl, rfl⟩)⟩, hr, hrc⟩)), rfl⟩
  · refine g_iload 0 dX4_layPart_38 rfl ?_
    refine g_iconst dX4_layPart_40 ?_
    refine g_icmp_le (tgt := 77) (by unfold R32; omega) (by unfold R32; omega) dX4_layPart_41 rfl (fun hm2 => ?_) (fun hm2 => ?_)
    · exact g_vret hRet dX4_layPart_77 ⟨nq, np, zt, zc, (by first | (obtain ⟨C, hC1, hC2⟩ := fp; exact ⟨_, _, ⟨l, lw, w, h, Rs, rfl, Or.inr (Or.inl ⟨by omega, rfl, C, hC1, rfl⟩)⟩, hC2, hrc⟩) | (rcases fl with ⟨-, C, hC1, hC2⟩ | ⟨q, -⟩; exact ⟨_, _, ⟨l, lw, w, h, Rs, rfl, Or.inr (Or.inl ⟨by omega, rfl, C, hC1, rfl⟩)⟩, hC2, hrc⟩; omega) | (rcases fu with ⟨-, C, hC1, hC2⟩ | ⟨q, -⟩; exact ⟨_, _, ⟨l, lw, w, h, Rs, rfl, Or.inr (Or.inl ⟨by omega, rfl, C, hC1, rfl⟩)⟩, hC2, hrc⟩; omega) | (refine ⟨_, _, ⟨l, lw, w, h, Rs, rfl, Or.inl ⟨hm1, rfl, rfl⟩⟩, hr, ?_⟩; rw [fc, bI_if, bI_if]; exact rep_push hrc _ _ _ _) | (exact ⟨_, _, ⟨l, lw, w, h, Rs, rfl, Or.inr (Or.inr ⟨by omega, rfl, rfl⟩)⟩, hr, hrc⟩)), rfl⟩
    · refine g_aload_n 1 dX4_layPart_44 rfl rfl ?_
      refine g_iload_n 2 dX4_layPart_45 rfl rfl ?_
      refine g_iload_n 3 dX4_layPart_46 rfl rfl ?_
      refine g_iload_n 4 dX4_layPart_47 rfl rfl ?_
      refine g_iload 5 dX4_layPart_48 rfl ?_
      refine g_callV_i (n := 4) (As := [.int (iI l), .int (iI lw), .int (iI w), .int (iI h)]) (wr := [(w2, aI E 576 zc)]) (C := RX4) [] (c_X4_cutUpright E p0 w1 w2 w3 w4 mk px py pa pb nw np nq mo zt l lw w h Rs (by omega) (by omega) (by exact hmo) (by exact hr) (by omega)) [0, 1, 2] [3] 0 rfl rfl gX4_layPart_X4_cutUpright rfl ⟨rfl, by decide +kernel⟩ ⟨by decide, by decide⟩ rfl rfl rfl rfl rfl (by decide) rfl (by decide) (by decide) (fun _ h => absurd h List.not_mem_nil) dX4_layPart_50 rfl (Nat.le_of_ble_eq_true rfl) ⟨by decide, by decide⟩ (fun r u p_4 => ?_)
      obtain ⟨xu, nqu, ztu, fu, rfl, rfl⟩ := p_4
      refine g_perm (ws1 := [(p0, oo 4 [.int (iI mk), .int (iI px), .int (iI py), .int (iI pa), .int (iI pb), .int (iI nw), .ref w1, .ref w2, .int (iI np), .ref w3, .int (iI nqu), .ref w4]), (w1, aI E 169 mo), (w3, aI E 576 ztu), (w2, aI E 576 zc)]) [1, 2, 3, 0] rfl (by decide) rfl ?_
      have hxu : xu = 0 ∨ xu = 1 := by rcases fu with ⟨q, -⟩ | ⟨q, -⟩ <;> omega
      refine g_if_ne (tgt := 77) (by unfold R32; omega) dX4_layPart_53 rfl (fun hx1 => ?_) (fun hx1 => ?_)
      · obtain ⟨hUU, hz1, hn1⟩ : nU (tb mo) w h ∧ ztu = zt ∧ nqu = nq := by (rcases fu with ⟨q, -⟩ | ⟨-, q⟩; omega; exact q)
        refine g_as (ws1 := [(p0, oo 4 [.int (iI mk), .int (iI px), .int (iI py), .int (iI pa), .int (iI pb), .int (iI nw), .ref w1, .ref w2, .int (iI np), .ref w3, .int (iI nq), .ref w4]), (w1, aI E 169 mo), (w3, aI E 576 ztu), (w2, aI E 576 zc)]) ?_ (by rw [hn1]) rfl rfl
        refine g_as (ws1 := [(p0, oo 4 [.int (iI mk), .int (iI px), .int (iI py), .int (iI pa), .int (iI pb), .int (iI nw), .ref w1, .ref w2, .int (iI np), .ref w3, .int (iI nq), .ref w4]), (w1, aI E 169 mo), (w3, aI E 576 zt), (w2, aI E 576 zc)]) ?_ (by rw [hz1]) rfl rfl
        refine g_aload_n 1 dX4_layPart_56 rfl rfl ?_
        refine g_iload_n 2 dX4_layPart_57 rfl rfl ?_
        refine g_iload_n 3 dX4_layPart_58 rfl rfl ?_
        refine g_iload_n 4 dX4_layPart_59 rfl rfl ?_
        refine g_iload 5 dX4_layPart_60 rfl ?_
        refine g_callV_i (n := 4) (As := [.int (iI l), .int (iI lw), .int (iI w), .int (iI h)]) (wr := [(w2, aI E 576 zc)]) (C := RX4) [] (c_X4_cutLevel E p0 w1 w2 w3 w4 mk px py pa pb nw np nq mo zt l lw w h Rs (by omega) (by omega) (by exact hmo) (by exact hr) (by omega) (by exact hUU)) [0, 1, 2] [3] 0 rfl rfl gX4_layPart_X4_cutLevel rfl ⟨rfl, by decide +kernel⟩ ⟨by decide, by decide⟩ rfl rfl rfl rfl rfl (by decide) rfl (by decide) (by decide) (fun _ h => absurd h List.not_mem_nil) dX4_layPart_62 rfl (Nat.le_of_ble_eq_true rfl) ⟨by decide, by decide⟩ (fun r u p_5 => ?_)
        obtain ⟨xl, nql, ztl, fl, rfl, rfl⟩ := p_5
        refine g_perm (ws1 := [(p0, oo 4 [.int (iI mk), .int (iI px), .int (iI py), .int (iI pa), .int (iI pb), .int (iI nw), .ref w1, .ref w2, .int (iI np), .ref w3, .int (iI nql), .ref w4]), (w1, aI E 169 mo), (w3, aI E 576 ztl), (w2, aI E 576 zc)]) [1, 2, 3, 0] rfl (by decide) rfl ?_
        have hxl : xl = 0 ∨ xl = 1 := by rcases fl with ⟨q, -⟩ | ⟨q, -⟩ <;> omega
        refine g_if_ne (tgt := 77) (by unfold R32; omega) dX4_layPart_65 rfl (fun hx2 => ?_) (fun hx2 => ?_)
        · obtain ⟨hLL, hz2, hn2⟩ : nL (tb mo) w h ∧ ztl = zt ∧ nql = nq := by (rcases fl with ⟨q, -⟩ | ⟨-, q⟩; omega; exact q)
          refine g_as (ws1 := [(p0, oo 4 [.int (iI mk), .int (iI px), .int (iI py), .int (iI pa), .int (iI pb), .int (iI nw), .ref w1, .ref w2, .int (iI np), .ref w3, .int (iI nq), .ref w4]), (w1, aI E 169 mo), (w3, aI E 576 ztl), (w2, aI E 576 zc)]) ?_ (by rw [hn2]) rfl rfl
          refine g_as (ws1 := [(p0, oo 4 [.int (iI mk), .int (iI px), .int (iI py), .int (iI pa), .int (iI pb), .int (iI nw), .ref w1, .ref w2, .int (iI np), .ref w3, .int (iI nq), .ref w4]), (w1, aI E 169 mo), (w3, aI E 576 zt), (w2, aI E 576 zc)]) ?_ (by rw [hz2]) rfl rfl
          refine g_aload_n 1 dX4_layPart_68 rfl rfl ?_
          refine g_iload_n 2 dX4_layPart_69 rfl rfl ?_
          refine g_iload_n 3 dX4_layPart_70 rfl rfl ?_
          refine g_iload_n 4 dX4_layPart_71 rfl rfl ?_
          refine g_iload 5 dX4_layPart_72 rfl ?_
          refine g_callV_v (n := 4) (As := [.int (iI l), .int (iI lw), .int (iI w), .int (iI h)]) (wr := [(w2, aI E 576 zc)]) (C := RX4) [] (c_X4_cutPinwheel E p0 w1 w2 w3 w4 mk px py pa pb nw np nq mo zt l lw w h Rs (by omega) (by omega) (by omega) (by omega) (by exact hmo) (by exact hr) (by omega) (by exact hUU) (by exact hLL) (by exact hG) (by exact hB) (by omega)) [0, 1, 2] [3] 0 rfl rfl gX4_layPart_X4_cutPinwheel rfl ⟨rfl, by decide +kernel⟩ ⟨by decide, by decide⟩ rfl rfl rfl rfl rfl (by decide) rfl (by decide) (by decide) (fun _ h => absurd h List.not_mem_nil) dX4_layPart_74 rfl (Nat.le_of_ble_eq_true rfl) ⟨by decide, by decide⟩ (fun u p_6 => ?_)
          obtain ⟨nqp, ztp, fp, rfl⟩ := p_6
          refine g_perm (ws1 := [(p0, oo 4 [.int (iI mk), .int (iI px), .int (iI py), .int (iI pa), .int (iI pb), .int (iI nw), .ref w1, .ref w2, .int (iI np), .ref w3, .int (iI nqp), .ref w4]), (w1, aI E 169 mo), (w3, aI E 576 ztp), (w2, aI E 576 zc)]) [1, 2, 3, 0] rfl (by decide) rfl ?_
          exact g_vret hRet dX4_layPart_77 ⟨nqp, np, ztp, zc, (by first | (obtain ⟨C, hC1, hC2⟩ := fp; exact ⟨_, _, ⟨l, lw, w, h, Rs, rfl, Or.inr (Or.inl ⟨by omega, rfl, C, hC1, rfl⟩)⟩, hC2, hrc⟩) | (rcases fl with ⟨-, C, hC1, hC2⟩ | ⟨q, -⟩; exact ⟨_, _, ⟨l, lw, w, h, Rs, rfl, Or.inr (Or.inl ⟨by omega, rfl, C, hC1, rfl⟩)⟩, hC2, hrc⟩; omega) | (rcases fu with ⟨-, C, hC1, hC2⟩ | ⟨q, -⟩; exact ⟨_, _, ⟨l, lw, w, h, Rs, rfl, Or.inr (Or.inl ⟨by omega, rfl, C, hC1, rfl⟩)⟩, hC2, hrc⟩; omega) | (refine ⟨_, _, ⟨l, lw, w, h, Rs, rfl, Or.inl ⟨hm1, rfl, rfl⟩⟩, hr, ?_⟩; rw [fc, bI_if, bI_if]; exact rep_push hrc _ _ _ _) | (exact ⟨_, _, ⟨l, lw, w, h, Rs, rfl, Or.inr (Or.inr ⟨by omega, rfl, rfl⟩)⟩, hr, hrc⟩)), rfl⟩
        · exact g_vret hRet dX4_layPart_77 ⟨nql, np, ztl, zc, (by first | (obtain ⟨C, hC1, hC2⟩ := fp; exact ⟨_, _, ⟨l, lw, w, h, Rs, rfl, Or.inr (Or.inl ⟨by omega, rfl, C, hC1, rfl⟩)⟩, hC2, hrc⟩) | (rcases fl with ⟨-, C, hC1, hC2⟩ | ⟨q, -⟩; exact ⟨_, _, ⟨l, lw, w, h, Rs, rfl, Or.inr (Or.inl ⟨by omega, rfl, C, hC1, rfl⟩)⟩, hC2, hrc⟩; omega) | (rcases fu with ⟨-, C, hC1, hC2⟩ | ⟨q, -⟩; exact ⟨_, _, ⟨l, lw, w, h, Rs, rfl, Or.inr (Or.inl ⟨by omega, rfl, C, hC1, rfl⟩)⟩, hC2, hrc⟩; omega) | (refine ⟨_, _, ⟨l, lw, w, h, Rs, rfl, Or.inl ⟨hm1, rfl, rfl⟩⟩, hr, ?_⟩; rw [fc, bI_if, bI_if]; exact rep_push hrc _ _ _ _) | (exact ⟨_, _, ⟨l, lw, w, h, Rs, rfl, Or.inr (Or.inr ⟨by omega, rfl, rfl⟩)⟩, hr, hrc⟩)), rfl⟩
      · exact g_vret hRet dX4_layPart_77 ⟨nqu, np, ztu, zc, (by first | (obtain ⟨C, hC1, hC2⟩ := fp; exact ⟨_, _, ⟨l, lw, w, h, Rs, rfl, Or.inr (Or.inl ⟨by omega, rfl, C, hC1, rfl⟩)⟩, hC2, hrc⟩) | (rcases fl with ⟨-, C, hC1, hC2⟩ | ⟨q, -⟩; exact ⟨_, _, ⟨l, lw, w, h, Rs, rfl, Or.inr (Or.inl ⟨by omega, rfl, C, hC1, rfl⟩)⟩, hC2, hrc⟩; omega) | (rcases fu with ⟨-, C, hC1, hC2⟩ | ⟨q, -⟩; exact ⟨_, _, ⟨l, lw, w, h, Rs, rfl, Or.inr (Or.inl ⟨by omega, rfl, C, hC1, rfl⟩)⟩, hC2, hrc⟩; omega) | (refine ⟨_, _, ⟨l, lw, w, h, Rs, rfl, Or.inl ⟨hm1, rfl, rfl⟩⟩, hr, ?_⟩; rw [fc, bI_if, bI_if]; exact rep_push hrc _ _ _ _) | (exact ⟨_, _, ⟨l, lw, w, h, Rs, rfl, Or.inr (Or.inr ⟨by omega, rfl, rfl⟩)⟩, hr, hrc⟩)), rfl⟩

set_option maxHeartbeats 4000000 in
set_option maxRecDepth 100000 in
theorem c_X4_layCases (E : Ev) (p0 : Nat) (w1 : Nat) (w2 : Nat) (w3 : Nat) (w4 : Nat) (mk : Int) (px : Int) (py : Int) (pa : Int) (pb : Int) (nw : Int) (np : Int) (nq : Int) (mo : Int → Int) (zt : Int → Int) (zc : Int → Int) (hxy : (1 ≤ px ∧ px ≤ 12) ∧ 1 ≤ py ∧ py ≤ 12) (hab : (1 ≤ pa ∧ pa ≤ 12) ∧ 1 ≤ pb ∧ pb ≤ 12) (hn : 1 ≤ nw ∧ nw ≤ pa ∧ nw ≤ pb) (hmo : ∀ k, 0 ≤ mo k ∧ mo k ≤ 144) (hT : gT pa pb (tb mo) px py) : MV yX4_layCases wsX4_layCases ({ frames := 4, cells := 0, slots := 0, locals := 101 } : Room) E [] 0 0 [.ref p0] [(p0, oo 4 [.int (iI mk), .int (iI px), .int (iI py), .int (iI pa), .int (iI pb), .int (iI nw), .ref w1, .ref w2, .int (iI np), .ref w3, .int (iI nq), .ref w4]), (w1, aI E 169 mo), (w3, aI E 576 zt), (w2, aI E 576 zc)] (fun u => ∃ (nq' : Int), ∃ (np' : Int), ∃ (zt' : Int → Int), ∃ (zc' : Int → Int), (∃ Ps, isLay pa pb px py Ps ∧ rep zc' np' Ps ∧ np' = tb mo px py) ∧ u = [(p0, oo 4 [.int (iI mk), .int (iI px), .int (iI py), .int (iI pa), .int (iI pb), .int (iI nw), .ref w1, .ref w2, .int (iI np'), .ref w3, .int (iI nq'), .ref w4]), (w1, aI E 169 mo), (w3, aI E 576 zt'), (w2, aI E 576 zc')]) := by
  refine MV.of (cc := cX4_layCases) (maxL := 3) (own := RX4) (by decide) rfl rfl rfl (Nat.le_of_ble_eq_true rfl) [(0, .ref p0)] rfl ?_
  intro X hin2 hRet
  refine g_aload_n 0 dX4_layCases_0 rfl rfl ?_
  refine g_iconst dX4_layCases_1 ?_
  refine g_put (C := RX4) (T := TX4) (N := 12) (ws1 := [(p0, oo 4 [.int (iI mk), .int (iI px), .int (iI py), .int (iI pa), .int (iI pb), .int (iI nw), .ref w1, .ref w2, .int (iI 0), .ref w3, .int (iI nq), .ref w4]), (w1, aI E 169 mo), (w3, aI E 576 zt), (w2, aI E 576 zc)]) 0 8 (fun _ h => List.mem_cons_of_mem _ (List.mem_append_right _ h)) tyX4 tyX4_ok nmX4 (List.mem_of_getElem? (i := 1) rfl) rfl rfl (by decide) rfl (tyX4_ok 8 (by decide)) rfl rfl (by first | decide | exact Nat.le_of_ble_eq_true rfl) dX4_layCases_2 rfl rfl ?_
  refine g_aload_n 0 dX4_layCases_5 rfl rfl ?_
  refine g_iconst dX4_layCases_6 ?_
  refine g_put (C := RX4) (T := TX4) (N := 12) (ws1 := [(p0, oo 4 [.int (iI mk), .int (iI px), .int (iI py), .int (iI pa), .int (iI pb), .int (iI nw), .ref w1, .ref w2, .int (iI 0), .ref w3, .int (iI 0), .ref w4]), (w1, aI E 169 mo), (w3, aI E 576 zt), (w2, aI E 576 zc)]) 0 10 (fun _ h => List.mem_cons_of_mem _ (List.mem_append_right _ h)) tyX4 tyX4_ok nmX4 (List.mem_of_getElem? (i := 2) rfl) rfl rfl (by decide) rfl (tyX4_ok 10 (by decide)) rfl rfl (by first | decide | exact Nat.le_of_ble_eq_true rfl) dX4_layCases_7 rfl rfl ?_
  refine g_aload_n 0 dX4_layCases_10 rfl rfl ?_
  refine g_iconst dX4_layCases_11 ?_
  refine g_iconst dX4_layCases_12 ?_
  refine g_aload_n 0 dX4_layCases_13 rfl rfl ?_
  refine g_get (C := RX4) (T := TX4) (N := 12) 0 1 (fun _ h => List.mem_cons_of_mem _ (List.mem_append_right _ h)) (List.mem_of_getElem? (i := 3) rfl) rfl rfl (by decide) rfl rfl dX4_layCases_14 ?_
  refine g_aload_n 0 dX4_layCases_17 rfl rfl ?_
  refine g_get (C := RX4) (T := TX4) (N := 12) 0 2 (fun _ h => List.mem_cons_of_mem _ (List.mem_append_right _ h)) (List.mem_of_getElem? (i := 4) rfl) rfl rfl (by decide) rfl rfl dX4_layCases_18 ?_
  refine g_callV_v (n := 4) (As := [.int (iI 0), .int (iI 0), .int (iI px), .int (iI py)]) (wr := [(w1, aI E 169 mo), (w2, aI E 576 zc)]) (C := RX4) [] (c_X4_putPart E p0 w1 w2 w3 w4 mk px py pa pb nw 0 0 zt 0 0 px py (by omega)) [0, 2] [1, 3] 0 rfl rfl gX4_layCases_X4_putPart rfl ⟨rfl, by decide +kernel⟩ ⟨by decide, by decide⟩ rfl rfl rfl rfl rfl (by decide) rfl (by decide) (by decide) (fun _ h => absurd h List.not_mem_nil) dX4_layCases_21 rfl (Nat.le_of_ble_eq_true rfl) ⟨by decide, by decide⟩ (fun u p_1 => ?_)
  subst p_1
  refine g_perm (ws1 := [(p0, oo 4 [.int (iI mk), .int (iI px), .int (iI py), .int (iI pa), .int (iI pb), .int (iI nw), .ref w1, .ref w2, .int (iI 0), .ref w3, .int (iI (0 + 1)), .ref w4]), (w1, aI E 169 mo), (w3, aI E 576 (up (up (up (up zt (4 * 0) 0) (4 * 0 + 1) 0) (4 * 0 + 2) px) (4 * 0 + 3) py)), (w2, aI E 576 zc)]) [2, 0, 3, 1] rfl (by decide) rfl ?_
  refine g_iconst dX4_layCases_24 ?_
  refine g_istore_n (lv1 := [(1, .int (iI 0)), (0, .ref p0)]) dX4_layCases_25 rfl (by decide) rfl ?_
  refine g_lv (lv1 := [(0, .ref p0), (1, .int (iI 0))]) [1, 0] rfl ?_
  have L26 : ∀ (nn : Nat) (n : Int) (nq1 : Int) (np1 : Int) (zt1 : Int → Int) (zc1 : Int → Int) (L : List Qd) (Ps : List Qd) (hn1 : 0 ≤ n ∧ n ≤ 288) (hr1 : rep zt1 nq1 L) (hc1 : rep zc1 np1 Ps) (hrun : runN pa pb (tb mo) n.toNat [(0, 0, px, py)] [] L Ps) (hm : 288 - n < (nn : Int)), G X ({ frames := 4, cells := 0, slots := 0, locals := 101 } : Room) cX4_layCases 3 RX4 wsX4_layCases E [] 0 0 [(p0, oo 4 [.int (iI mk), .int (iI px), .int (iI py), .int (iI pa), .int (iI pb), .int (iI nw), .ref w1, .ref w2, .int (iI np1), .ref w3, .int (iI nq1), .ref w4]), (w1, aI E 169 mo), (w3, aI E 576 zt1), (w2, aI E 576 zc1)] [(0, .ref p0), (1, .int (iI n))] 26 [] := by
    intro nn
    induction nn with
    | zero => intro n nq1 np1 zt1 zc1 L Ps hn1 hr1 hc1 hrun hm; exfalso; omega
    | succ nn ih26 =>
      intro n nq1 np1 zt1 zc1 L Ps hn1 hr1 hc1 hrun hm
      have hIv := Iv_r hT hab.1.1 hab.2.1 hxy.1.1 hxy.2.1 n.toNat hrun
      obtain ⟨I1, I2, I3, I4, I5, I6⟩ := hIv
      have h144 := wh_144 (w := px) (h := py) (by omega) (by omega)
      have hLl := rep_len hr1
      have hPl := rep_len hc1
      have hLA := len_ar I1
      refine g_iload_n 1 dX4_layCases_26 rfl rfl ?_
      refine g_sipush dX4_layCases_27 rfl ?_
      refine g_icmp_ge (tgt := 97) (by unfold R32; omega) (by unfold R32; omega) dX4_layCases_30 rfl (fun c_2 => ?_) (fun c_2 => ?_)
      · exact g_vret hRet dX4_layCases_97 ⟨nq1, np1, zt1, zc1, (by first | (exfalso; omega) | (have hL0 : L = [] := List.eq_nil_of_length_eq_zero (by omega); subst hL0; exact ⟨Ps, ⟨tb mo, n.toNat, hT, hrun⟩, hc1, by have e : sumL (mq (tb mo)) [] = 0 := rfl; omega⟩)), rfl⟩
      · refine g_aload_n 0 dX4_layCases_33 rfl rfl ?_
        refine g_get (C := RX4) (T := TX4) (N := 12) 0 10 (fun _ h => List.mem_cons_of_mem _ (List.mem_append_right _ h)) (List.mem_of_getElem? (i := 2) rfl) rfl rfl (by decide) rfl rfl dX4_layCases_34 ?_
        refine g_if_le (tgt := 97) (by unfold R32; omega) dX4_layCases_37 rfl (fun c_3 => ?_) (fun c_3 => ?_)
        · exact g_vret hRet dX4_layCases_97 ⟨nq1, np1, zt1, zc1, (by first | (exfalso; omega) | (have hL0 : L = [] := List.eq_nil_of_length_eq_zero (by omega); subst hL0; exact ⟨Ps, ⟨tb mo, n.toNat, hT, hrun⟩, hc1, by have e : sumL (mq (tb mo)) [] = 0 := rfl; omega⟩)), rfl⟩
        · obtain ⟨R1, hL1, hR1⟩ := rep_pop hr1 (by omega)
          have hq1 := I1 (q4 zt1 (nq1 - 1)) (by rw [hL1]; exact List.mem_cons_self)
          unfold okQ q4 at hq1
          simp only at hq1
          have hsA : sumL ar L = zt1 (4 * (nq1 - 1) + 2) * zt1 (4 * (nq1 - 1) + 3) + sumL ar R1 := by rw [hL1]; rfl
          have hRA := len_ar (L := R1) (fun q hq => I1 q (by rw [hL1]; exact List.mem_cons_of_mem _ hq))
          have hRl := rep_len hR1
          have hww := mul_ge (w := zt1 (4 * (nq1 - 1) + 2)) (h := zt1 (4 * (nq1 - 1) + 3)) (p := 1) (q := 1) (by omega) (by omega) (by omega) (by omega)
          refine g_aload_n 0 dX4_layCases_40 rfl rfl ?_
          refine g_dup dX4_layCases_41 rfl ?_
          refine g_get (C := RX4) (T := TX4) (N := 12) 0 10 (fun _ h => List.mem_cons_of_mem _ (List.mem_append_right _ h)) (List.mem_of_getElem? (i := 2) rfl) rfl rfl (by decide) rfl rfl dX4_layCases_42 ?_
          refine g_iconst dX4_layCases_45 ?_
          refine g_isub dX4_layCases_46 ?_
          refine g_put (C := RX4) (T := TX4) (N := 12) (ws1 := [(p0, oo 4 [.int (iI mk), .int (iI px), .int (iI py), .int (iI pa), .int (iI pb), .int (iI nw), .ref w1, .ref w2, .int (iI np1), .ref w3, .int (iI (nq1 - 1)), .ref w4]), (w1, aI E 169 mo), (w3, aI E 576 zt1), (w2, aI E 576 zc1)]) 0 10 (fun _ h => List.mem_cons_of_mem _ (List.mem_append_right _ h)) tyX4 tyX4_ok nmX4 (List.mem_of_getElem? (i := 2) rfl) rfl rfl (by decide) rfl (tyX4_ok 10 (by decide)) rfl rfl (by first | decide | exact Nat.le_of_ble_eq_true rfl) dX4_layCases_47 rfl rfl ?_
          refine g_iconst dX4_layCases_50 ?_
          refine g_aload_n 0 dX4_layCases_51 rfl rfl ?_
          refine g_get (C := RX4) (T := TX4) (N := 12) 0 10 (fun _ h => List.mem_cons_of_mem _ (List.mem_append_right _ h)) (List.mem_of_getElem? (i := 2) rfl) rfl rfl (by decide) rfl rfl dX4_layCases_52 ?_
          refine g_imul dX4_layCases_55 ?_
          refine g_istore_n (lv1 := [(2, .int (iI (4 * (nq1 - 1)))), (0, .ref p0), (1, .int (iI n))]) dX4_layCases_56 rfl (by decide) rfl ?_
          refine g_aload_n 1 dX4_layCases_57 rfl rfl ?_
          refine g_aload_n 1 dX4_layCases_58 rfl rfl ?_
          refine g_get (C := RX4) (T := TX4) (N := 12) 0 9 (fun _ h => List.mem_cons_of_mem _ (List.mem_append_right _ h)) (List.mem_of_getElem? (i := 5) rfl) rfl rfl (by decide) rfl rfl dX4_layCases_59 ?_
          refine g_iload_n 0 dX4_layCases_62 rfl rfl ?_
          refine g_iald 2 dX4_layCases_63 rfl (by decide) (by omega) (by omega) ?_
          refine g_aload_n 1 dX4_layCases_64 rfl rfl ?_
          refine g_get (C := RX4) (T := TX4) (N := 12) 0 9 (fun _ h => List.mem_cons_of_mem _ (List.mem_append_right _ h)) (List.mem_of_getElem? (i := 5) rfl) rfl rfl (by decide) rfl rfl dX4_layCases_65 ?_
          refine g_iload_n 0 dX4_layCases_68 rfl rfl ?_
          refine g_iconst dX4_layCases_69 ?_
          refine g_iadd dX4_layCases_70 ?_
          refine g_iald 2 dX4_layCases_71 rfl (by decide) (by omega) (by omega) ?_
          refine g_aload_n 1 dX4_layCases_72 rfl rfl ?_
          refine g_get (C := RX4) (T := TX4) (N := 12) 0 9 (fun _ h => List.mem_cons_of_mem _ (List.mem_append_right _ h)) (List.mem_of_getElem? (i := 5) rfl) rfl rfl (by decide) rfl rfl dX4_layCases_73 ?_
          refine g_iload_n 0 dX4_layCases_76 rfl rfl ?_
          refine g_iconst dX4_layCases_77 ?_
          refine g_iadd dX4_layCases_78 ?_
          refine g_iald 2 dX4_layCases_79 rfl (by decide) (by omega) (by omega) ?_
          refine g_aload_n 1 dX4_layCases_80 rfl rfl ?_
          refine g_get (C := RX4) (T := TX4) (N := 12) 0 9 (fun _ h => List.mem_cons_of_mem _ (List.mem_append_right _ h)) (List.mem_of_getElem? (i := 5) rfl) rfl rfl (by decide) rfl rfl dX4_layCases_81 ?_
          refine g_iload_n 0 dX4_layCases_84 rfl rfl ?_
          refine g_iconst dX4_layCases_85 ?_
          refine g_iadd dX4_layCases_86 ?_
          refine g_iald 2 dX4_layCases_87 rfl (by decide) (by omega) (by omega) ?_
          refine g_callV_v (n := 4) (As := [.int (iI (zt1 (4 * (nq1 - 1)))), .int (iI (zt1 ((4 * (nq1 - 1)) + 1))), .int (iI (zt1 ((4 * (nq1 - 1)) + 2))), .int (iI (zt1 ((4 * (nq1 - 1)) + 3)))]) (wr := []) (C := RX4) [] (c_X4_layPart E p0 w1 w2 w3 w4 mk px py pa pb nw np1 (nq1 - 1) mo zt1 zc1 (zt1 (4 * (nq1 - 1))) (zt1 ((4 * (nq1 - 1)) + 1)) (zt1 ((4 * (nq1 - 1)) + 2)) (zt1 ((4 * (nq1 - 1)) + 3)) R1 Ps (by omega) (by omega) (by omega) (by exact hmo) (by exact hT) (by omega) (by omega) (by exact hR1) (by omega) (by exact hc1) (by omega)) [0, 1, 2, 3] [] 0 rfl rfl gX4_layCases_X4_layPart rfl ⟨rfl, by decide +kernel⟩ ⟨by decide, by decide⟩ rfl rfl rfl rfl rfl (by decide) rfl (by decide) (by decide) (fun _ h => absurd h List.not_mem_nil) dX4_layCases_88 rfl (Nat.le_of_ble_eq_true rfl) ⟨by decide, by decide⟩ (fun u p_4 => ?_)
          obtain ⟨nq2, np2, zt2, zc2, fp, rfl⟩ := p_4
          obtain ⟨L2, P2, hs2, hr2, hc2⟩ := fp
          refine g_iinc (lv1 := [(1, .int (iI (n + 1))), (2, .int (iI (4 * (nq1 - 1)))), (0, .ref p0)]) 2 dX4_layCases_91 rfl (by decide) rfl ?_
          refine g_goto (tgt := 26) dX4_layCases_94 rfl ?_
          refine g_lv (lv1 := [(0, .ref p0), (1, .int (iI (n + 1)))]) [2, 0] rfl ?_
          exact ih26 (n + 1) nq2 np2 zt2 zc2 L2 P2 (by omega) (by exact hr2) (by exact hc2) (by rw [show (n + 1).toNat = n.toNat + 1 by omega]; exact ⟨L, Ps, hrun, by rw [hL1]; exact hs2⟩) (by omega)
  exact L26 _ 0 (0 + 1) 0 (up (up (up (up zt (4 * 0) 0) (4 * 0 + 1) 0) (4 * 0 + 2) px) (4 * 0 + 3) py) zc ([(0, 0, px, py)]) ([]) (by omega) (by exact rep_push (n := 0) (L := []) rfl 0 0 px py) (by rfl) (by exact ⟨rfl, rfl⟩) (lt_nn _)

set_option maxHeartbeats 4000000 in
set_option maxRecDepth 100000 in
theorem c_X4_make (E : Ev) (p0 : Nat) (w1 : Nat) (w2 : Nat) (w3 : Nat) (w4 : Nat) (mk : Int) (px : Int) (py : Int) (pa : Int) (pb : Int) (nw : Int) (np : Int) (nq : Int) (mo : Int → Int) (zt : Int → Int) (zc : Int → Int) (qx : Int) (qy : Int) (qa : Int) (qb : Int) (h_qx : 1 ≤ qx ∧ qx ≤ 12) (h_qy : 1 ≤ qy ∧ qy ≤ 12) (h_qa : 1 ≤ qa ∧ qa ≤ 12) (h_qb : 1 ≤ qb ∧ qb ≤ 12) (hmo : ∀ k, 0 ≤ mo k ∧ mo k ≤ 144) : MI yX4_make wsX4_make ({ frames := 5, cells := 0, slots := 0, locals := 123 } : Room) E [] 0 0 [.ref p0, .int (iI qx), .int (iI qy), .int (iI qa), .int (iI qb)] [(p0, oo 4 [.int (iI mk), .int (iI px), .int (iI py), .int (iI pa), .int (iI pb), .int (iI nw), .ref w1, .ref w2, .int (iI np), .ref w3, .int (iI nq), .ref w4]), (w1, aI E 169 mo), (w3, aI E 576 zt), (w2, aI E 576 zc)] (fun r u => ∃ (nq' : Int), ∃ (np' : Int), ∃ (mo' : Int → Int), ∃ (zt' : Int → Int), ∃ (zc' : Int → Int), (∃ Ps, isLay qa qb qx qy Ps ∧ rep zc' np' Ps) ∧ (∀ k, 0 ≤ mo' k ∧ mo' k ≤ 144) ∧ r = iI np' ∧ u = [(p0, oo 4 [.int (iI 1), .int (iI qx), .int (iI qy), .int (iI qa), .int (iI qb), .int (iI (min qa qb)), .ref w1, .ref w2, .int (iI np'), .ref w3, .int (iI nq'), .ref w4]), (w1, aI E 169 mo'), (w3, aI E 576 zt'), (w2, aI E 576 zc')]) := by
  refine MI.of (cc := cX4_make) (maxL := 5) (own := RX4) (by decide) rfl rfl rfl (Nat.le_of_ble_eq_true rfl) [(0, .ref p0), (1, .int (iI qx)), (2, .int (iI qy)), (3, .int (iI qa)), (4, .int (iI qb))] rfl ?_
  intro X hin2 hRet
  refine g_aload_n 0 dX4_make_0 rfl rfl ?_
  refine g_iload_n 1 dX4_make_1 rfl rfl ?_
  refine g_put (C := RX4) (T := TX4) (N := 12) (ws1 := [(p0, oo 4 [.int (iI mk), .int (iI qx), .int (iI py), .int (iI pa), .int (iI pb), .int (iI nw), .ref w1, .ref w2, .int (iI np), .ref w3, .int (iI nq), .ref w4]), (w1, aI E 169 mo), (w3, aI E 576 zt), (w2, aI E 576 zc)]) 0 1 (fun _ h => List.mem_cons_of_mem _ (List.mem_append_right _ h)) tyX4 tyX4_ok nmX4 (List.mem_of_getElem? (i := 1) rfl) rfl rfl (by decide) rfl (tyX4_ok 1 (by decide)) rfl rfl (by first | decide | exact Nat.le_of_ble_eq_true rfl) dX4_make_2 rfl rfl ?_
  refine g_aload_n 0 dX4_make_5 rfl rfl ?_
  refine g_iload_n 2 dX4_make_6 rfl rfl ?_
  refine g_put (C := RX4) (T := TX4) (N := 12) (ws1 := [(p0, oo 4 [.int (iI mk), .int (iI qx), .int (iI qy), .int (iI pa), .int (iI pb), .int (iI nw), .ref w1, .ref w2, .int (iI np), .ref w3, .int (iI nq), .ref w4]), (w1, aI E 169 mo), (w3, aI E 576 zt), (w2, aI E 576 zc)]) 0 2 (fun _ h => List.mem_cons_of_mem _ (List.mem_append_right _ h)) tyX4 tyX4_ok nmX4 (List.mem_of_getElem? (i := 2) rfl) rfl rfl (by decide) rfl (tyX4_ok 2 (by decide)) rfl rfl (by first | decide | exact Nat.le_of_ble_eq_true rfl) dX4_make_7 rfl rfl ?_
  refine g_aload_n 0 dX4_make_10 rfl rfl ?_
  refine g_iload_n 3 dX4_make_11 rfl rfl ?_
  refine g_put (C := RX4) (T := TX4) (N := 12) (ws1 := [(p0, oo 4 [.int (iI mk), .int (iI qx), .int (iI qy), .int (iI qa), .int (iI pb), .int (iI nw), .ref w1, .ref w2, .int (iI np), .ref w3, .int (iI nq), .ref w4]), (w1, aI E 169 mo), (w3, aI E 576 zt), (w2, aI E 576 zc)]) 0 3 (fun _ h => List.mem_cons_of_mem _ (List.mem_append_right _ h)) tyX4 tyX4_ok nmX4 (List.mem_of_getElem? (i := 3) rfl) rfl rfl (by decide) rfl (tyX4_ok 3 (by decide)) rfl rfl (by first | decide | exact Nat.le_of_ble_eq_true rfl) dX4_make_12 rfl rfl ?_
  refine g_aload_n 0 dX4_make_15 rfl rfl ?_
  refine g_iload 4 dX4_make_16 rfl ?_
  refine g_put (C := RX4) (T := TX4) (N := 12) (ws1 := [(p0, oo 4 [.int (iI mk), .int (iI qx), .int (iI qy), .int (iI qa), .int (iI qb), .int (iI nw), .ref w1, .ref w2, .int (iI np), .ref w3, .int (iI nq), .ref w4]), (w1, aI E 169 mo), (w3, aI E 576 zt), (w2, aI E 576 zc)]) 0 4 (fun _ h => List.mem_cons_of_mem _ (List.mem_append_right _ h)) tyX4 tyX4_ok nmX4 (List.mem_of_getElem? (i := 4) rfl) rfl rfl (by decide) rfl (tyX4_ok 4 (by decide)) rfl rfl (by first | decide | exact Nat.le_of_ble_eq_true rfl) dX4_make_18 rfl rfl ?_
  refine g_aload_n 0 dX4_make_21 rfl rfl ?_
  refine g_iload_n 3 dX4_make_22 rfl rfl ?_
  refine g_iload 4 dX4_make_23 rfl ?_
  refine g_mmin (by unfold R32; omega) (by unfold R32; omega) (List.mem_of_getElem? (i := 5) rfl) (List.mem_of_getElem? (i := 6) rfl) (List.mem_of_getElem? (i := 7) rfl) (List.mem_of_getElem? (i := 8) rfl) (by decide) (Nat.le_of_ble_eq_true rfl) (by decide) dX4_make_25 ?_
  refine g_put (C := RX4) (T := TX4) (N := 12) (ws1 := [(p0, oo 4 [.int (iI mk), .int (iI qx), .int (iI qy), .int (iI qa), .int (iI qb), .int (iI (min qa qb)), .ref w1, .ref w2, .int (iI np), .ref w3, .int (iI nq), .ref w4]), (w1, aI E 169 mo), (w3, aI E 576 zt), (w2, aI E 576 zc)]) 0 5 (fun _ h => List.mem_cons_of_mem _ (List.mem_append_right _ h)) tyX4 tyX4_ok nmX4 (List.mem_of_getElem? (i := 9) rfl) rfl rfl (by decide) rfl (tyX4_ok 5 (by decide)) rfl rfl (by first | decide | exact Nat.le_of_ble_eq_true rfl) dX4_make_28 rfl rfl ?_
  refine g_aload_n 0 dX4_make_31 rfl rfl ?_
  refine g_iconst dX4_make_32 ?_
  refine g_put (C := RX4) (T := TX4) (N := 12) (ws1 := [(p0, oo 4 [.int (iI 1), .int (iI qx), .int (iI qy), .int (iI qa), .int (iI qb), .int (iI (min qa qb)), .ref w1, .ref w2, .int (iI np), .ref w3, .int (iI nq), .ref w4]), (w1, aI E 169 mo), (w3, aI E 576 zt), (w2, aI E 576 zc)]) 0 0 (fun _ h => List.mem_cons_of_mem _ (List.mem_append_right _ h)) tyX4 tyX4_ok nmX4 (List.mem_of_getElem? (i := 10) rfl) rfl rfl (by decide) rfl (tyX4_ok 0 (by decide)) rfl rfl (by first | decide | exact Nat.le_of_ble_eq_true rfl) dX4_make_33 rfl rfl ?_
  refine g_aload_n 0 dX4_make_36 rfl rfl ?_
  refine g_callV_v (n := 0) (As := []) (wr := [(w3, aI E 576 zt), (w2, aI E 576 zc)]) (C := RX4) [] (c_X4_findMost E p0 w1 w2 w3 w4 1 qx qy qa qb (min qa qb) np nq mo (by omega) (by omega) (by omega) (by exact hmo)) [0, 1] [2, 3] 0 rfl rfl gX4_make_X4_findMost rfl ⟨rfl, by decide +kernel⟩ ⟨by decide, by decide⟩ rfl rfl rfl rfl rfl (by decide) rfl (by decide) (by decide) (fun _ h => absurd h List.not_mem_nil) dX4_make_37 rfl (Nat.le_of_ble_eq_true rfl) ⟨by decide, by decide⟩ (fun u p_1 => ?_)
  obtain ⟨mo2, hT2, hmo2, rfl⟩ := p_1
  refine g_perm (ws1 := [(p0, oo 4 [.int (iI 1), .int (iI qx), .int (iI qy), .int (iI qa), .int (iI qb), .int (iI (min qa qb)), .ref w1, .ref w2, .int (iI np), .ref w3, .int (iI nq), .ref w4]), (w1, aI E 169 mo2), (w3, aI E 576 zt), (w2, aI E 576 zc)]) [2, 3, 0, 1] rfl (by decide) rfl ?_
  refine g_aload_n 0 dX4_make_40 rfl rfl ?_
  refine g_callV_v (n := 0) (As := []) (wr := []) (C := RX4) [] (c_X4_layCases E p0 w1 w2 w3 w4 1 qx qy qa qb (min qa qb) np nq mo2 zt zc (by omega) (by omega) (by omega) (by exact hmo2) (by exact hT2)) [0, 1, 2, 3] [] 0 rfl rfl gX4_make_X4_layCases rfl ⟨rfl, by decide +kernel⟩ ⟨by decide, by decide⟩ rfl rfl rfl rfl rfl (by decide) rfl (by decide) (by decide) (fun _ h => absurd h List.not_mem_nil) dX4_make_41 rfl (Nat.le_of_ble_eq_true rfl) ⟨by decide, by decide⟩ (fun u p_2 => ?_)
  obtain ⟨nq2, np2, zt2, zc2, fl, rfl⟩ := p_2
  obtain ⟨Ps, fl1, fl2, fl3⟩ := fl
  refine g_aload_n 0 dX4_make_44 rfl rfl ?_
  refine g_iload_n 1 dX4_make_45 rfl rfl ?_
  refine g_iload_n 2 dX4_make_46 rfl rfl ?_
  refine g_callV_i (n := 2) (As := [.int (iI qx), .int (iI qy)]) (wr := [(w3, aI E 576 zt2), (w2, aI E 576 zc2)]) (C := RX4) [] (c_X4_mostOf E p0 w1 w2 w3 w4 1 qx qy qa qb (min qa qb) np2 nq2 mo2 qx qy (by omega) (by omega)) [0, 1] [2, 3] 0 rfl rfl gX4_make_X4_mostOf rfl ⟨rfl, by decide +kernel⟩ ⟨by decide, by decide⟩ rfl rfl rfl rfl rfl (by decide) rfl (by decide) (by decide) (fun _ h => absurd h List.not_mem_nil) dX4_make_47 rfl (Nat.le_of_ble_eq_true rfl) ⟨by decide, by decide⟩ (fun r u p_3 => ?_)
  obtain ⟨rfl, rfl⟩ := p_3
  refine g_perm (ws1 := [(p0, oo 4 [.int (iI 1), .int (iI qx), .int (iI qy), .int (iI qa), .int (iI qb), .int (iI (min qa qb)), .ref w1, .ref w2, .int (iI np2), .ref w3, .int (iI nq2), .ref w4]), (w1, aI E 169 mo2), (w3, aI E 576 zt2), (w2, aI E 576 zc2)]) [2, 3, 0, 1] rfl (by decide) rfl ?_
  exact g_iret hRet dX4_make_50 rfl ⟨nq2, np2, mo2, zt2, zc2, (by exact ⟨Ps, fl1, fl2⟩), (by exact hmo2), (congrArg iI (by exact fl3.symm)), rfl⟩

set_option maxHeartbeats 4000000 in
set_option maxRecDepth 100000 in
theorem c_X4_numberOf (E : Ev) (p0 : Nat) (w1 : Nat) (w2 : Nat) (w3 : Nat) (w4 : Nat) (mk : Int) (px : Int) (py : Int) (pa : Int) (pb : Int) (nw : Int) (np : Int) (nq : Int) (zc : Int → Int) (i : Int) (what : Int) (hi : 0 ≤ i ∧ i ≤ 2147483647) (hnp : 0 ≤ np ∧ np ≤ 144) (hwt : 0 ≤ what ∧ what ≤ 3) : MI yX4_numberOf wsX4_numberOf ({ frames := 0, cells := 0, slots := 0, locals := 0 } : Room) E [] 0 0 [.ref p0, .int (iI i), .int (iI what)] [(p0, oo 4 [.int (iI mk), .int (iI px), .int (iI py), .int (iI pa), .int (iI pb), .int (iI nw), .ref w1, .ref w2, .int (iI np), .ref w3, .int (iI nq), .ref w4]), (w2, aI E 576 zc)] (fun r u => r = iI (if i < np then zc (4 * i + what) else -4) ∧ u = [(p0, oo 4 [.int (iI mk), .int (iI px), .int (iI py), .int (iI pa), .int (iI pb), .int (iI nw), .ref w1, .ref w2, .int (iI np), .ref w3, .int (iI nq), .ref w4]), (w2, aI E 576 zc)]) := by
  refine MI.of (cc := cX4_numberOf) (maxL := 3) (own := RX4) (by decide) rfl rfl rfl (Nat.le_of_ble_eq_true rfl) [(0, .ref p0), (1, .int (iI i)), (2, .int (iI what))] rfl ?_
  intro X hin2 hRet
  refine g_iload_n 1 dX4_numberOf_0 rfl rfl ?_
  refine g_aload_n 0 dX4_numberOf_1 rfl rfl ?_
  refine g_get (C := RX4) (T := TX4) (N := 12) 0 8 (fun _ h => List.mem_cons_of_mem _ (List.mem_append_right _ h)) (List.mem_of_getElem? (i := 1) rfl) rfl rfl (by decide) rfl rfl dX4_numberOf_2 ?_
  refine g_icmp_ge (tgt := 21) (by unfold R32; omega) (by unfold R32; omega) dX4_numberOf_5 rfl (fun c_1 => ?_) (fun c_1 => ?_)
  · refine g_bipush dX4_numberOf_21 rfl ?_
    exact g_iret hRet dX4_numberOf_23 rfl ⟨(congrArg iI (by first | (rw [if_pos (by omega)]; done) | (rw [if_neg (by omega)]; done))), rfl⟩
  · refine g_aload_n 0 dX4_numberOf_8 rfl rfl ?_
    refine g_get (C := RX4) (T := TX4) (N := 12) 0 7 (fun _ h => List.mem_cons_of_mem _ (List.mem_append_right _ h)) (List.mem_of_getElem? (i := 2) rfl) rfl rfl (by decide) rfl rfl dX4_numberOf_9 ?_
    refine g_iconst dX4_numberOf_12 ?_
    refine g_iload_n 1 dX4_numberOf_13 rfl rfl ?_
    refine g_imul dX4_numberOf_14 ?_
    refine g_iload_n 2 dX4_numberOf_15 rfl rfl ?_
    refine g_iadd dX4_numberOf_16 ?_
    refine g_iald 1 dX4_numberOf_17 rfl (by decide) (by omega) (by omega) ?_
    refine g_goto (tgt := 23) dX4_numberOf_18 rfl ?_
    exact g_iret hRet dX4_numberOf_23 rfl ⟨(congrArg iI (by first | (rw [if_pos (by omega)]; done) | (rw [if_neg (by omega)]; done))), rfl⟩

def sp_layer (px py np : Int) (zc : Int → Int) (qx qy qa qb x px' py' np' : Int) (zc' : Int → Int) : Prop :=
  if ¬ ((1 ≤ qx ∧ qx ≤ 12) ∧ (1 ≤ qy ∧ qy ≤ 12) ∧ (1 ≤ qa ∧ qa ≤ 12) ∧ 1 ≤ qb ∧ qb ≤ 12) then x = -1 ∧ px' = px ∧ py' = py ∧ np' = np ∧ zc' = zc else px' = qx ∧ py' = qy ∧ x = np' ∧ ∃ Ps, isLay qa qb qx qy Ps ∧ rep zc' np' Ps
def f_planned (mk np : Int) (zc : Int → Int) (i what : Int) : Int :=
  if ¬ (0 ≤ i ∧ 0 ≤ what ∧ what ≤ 3) then -1 else if mk = 0 then -2 else if i < np then zc (4 * i + what) else -4

set_option maxHeartbeats 4000000 in
set_option maxRecDepth 100000 in
theorem c_X6_layer (E : Ev) (x0 : Nat) (a1 : Nat) (h0 : Nat) (a4 : Nat) (a5 : Nat) (lo : Int) (p0 : Nat) (w1 : Nat) (w2 : Nat) (w3 : Nat) (w4 : Nat) (mk : Int) (px : Int) (py : Int) (pa : Int) (pb : Int) (nw : Int) (np : Int) (nq : Int) (mo : Int → Int) (zt : Int → Int) (zc : Int → Int) (qx : Int) (qy : Int) (qa : Int) (qb : Int) (h_qx : -2147483648 ≤ qx ∧ qx ≤ 2147483647) (h_qy : -2147483648 ≤ qy ∧ qy ≤ 2147483647) (h_qa : -2147483648 ≤ qa ∧ qa ≤ 2147483647) (h_qb : -2147483648 ≤ qb ∧ qb ≤ 2147483647) (hmo : ∀ k, 0 ≤ mo k ∧ mo k ≤ 144) : MI yX6_layer wsX6_layer ({ frames := 6, cells := 0, slots := 0, locals := 147 } : Room) E [] 0 0 [.ref x0, .int (iI qx), .int (iI qy), .int (iI qa), .int (iI qb)] [(x0, oo 6 [.ref a1, .ref h0, .ref p0, .ref a4, .ref a5, .int (iI lo)]), (p0, oo 4 [.int (iI mk), .int (iI px), .int (iI py), .int (iI pa), .int (iI pb), .int (iI nw), .ref w1, .ref w2, .int (iI np), .ref w3, .int (iI nq), .ref w4]), (w1, aI E 169 mo), (w3, aI E 576 zt), (w2, aI E 576 zc)] (fun r u => ∃ (x : Int), ∃ (mk' : Int), ∃ (px' : Int), ∃ (py' : Int), ∃ (pa' : Int), ∃ (pb' : Int), ∃ (nw' : Int), ∃ (np' : Int), ∃ (nq' : Int), ∃ (mo' : Int → Int), ∃ (zt' : Int → Int), ∃ (zc' : Int → Int), sp_layer px py np zc qx qy qa qb x px' py' np' zc' ∧ mk' = (if x = -1 then mk else 1) ∧ (∀ k, 0 ≤ mo' k ∧ mo' k ≤ 144) ∧ r = iI x ∧ u = [(x0, oo 6 [.ref a1, .ref h0, .ref p0, .ref a4, .ref a5, .int (iI lo)]), (p0, oo 4 [.int (iI mk'), .int (iI px'), .int (iI py'), .int (iI pa'), .int (iI pb'), .int (iI nw'), .ref w1, .ref w2, .int (iI np'), .ref w3, .int (iI nq'), .ref w4]), (w1, aI E 169 mo'), (w3, aI E 576 zt'), (w2, aI E 576 zc')]) := by
  refine MI.of (cc := cX6_layer) (maxL := 5) (own := RX6) (by decide) rfl rfl rfl (Nat.le_of_ble_eq_true rfl) [(0, .ref x0), (1, .int (iI qx)), (2, .int (iI qy)), (3, .int (iI qa)), (4, .int (iI qb))] rfl ?_
  intro X hin2 hRet
  refine g_iload_n 1 dX6_layer_0 rfl rfl ?_
  refine g_callS_i (n := 1) (As := [.int (iI qx)]) (wr := [(x0, oo 6 [.ref a1, .ref h0, .ref p0, .ref a4, .ref a5, .int (iI lo)]), (p0, oo 4 [.int (iI mk), .int (iI px), .int (iI py), .int (iI pa), .int (iI pb), .int (iI nw), .ref w1, .ref w2, .int (iI np), .ref w3, .int (iI nq), .ref w4]), (w1, aI E 169 mo), (w3, aI E 576 zt), (w2, aI E 576 zc)]) [] (c_X6_isSide E qx (by omega)) [] [0, 1, 2, 3, 4] gX6_layer_X6_isSide rfl ⟨rfl, by decide +kernel⟩ ⟨by decide, by decide⟩ rfl rfl rfl rfl rfl (by decide) rfl (by decide) (by decide) (fun _ h => absurd h List.not_mem_nil) dX6_layer_1 rfl (Nat.le_of_ble_eq_true rfl) ⟨by decide, by decide⟩ (fun r u p_1 => ?_)
  obtain ⟨rfl, rfl⟩ := p_1
  refine g_perm (ws1 := [(x0, oo 6 [.ref a1, .ref h0, .ref p0, .ref a4, .ref a5, .int (iI lo)]), (p0, oo 4 [.int (iI mk), .int (iI px), .int (iI py), .int (iI pa), .int (iI pb), .int (iI nw), .ref w1, .ref w2, .int (iI np), .ref w3, .int (iI nq), .ref w4]), (w1, aI E 169 mo), (w3, aI E 576 zt), (w2, aI E 576 zc)]) [0, 1, 2, 3, 4] rfl (by decide) rfl ?_
  refine g_if_eq_b (tgt := 29) dX6_layer_4 rfl (fun c_2 => ?_) (fun c_2 => ?_)
  · refine g_iload_n 2 dX6_layer_7 rfl rfl ?_
    refine g_callS_i (n := 1) (As := [.int (iI qy)]) (wr := [(x0, oo 6 [.ref a1, .ref h0, .ref p0, .ref a4, .ref a5, .int (iI lo)]), (p0, oo 4 [.int (iI mk), .int (iI px), .int (iI py), .int (iI pa), .int (iI pb), .int (iI nw), .ref w1, .ref w2, .int (iI np), .ref w3, .int (iI nq), .ref w4]), (w1, aI E 169 mo), (w3, aI E 576 zt), (w2, aI E 576 zc)]) [] (c_X6_isSide E qy (by omega)) [] [0, 1, 2, 3, 4] gX6_layer_X6_isSide rfl ⟨rfl, by decide +kernel⟩ ⟨by decide, by decide⟩ rfl rfl rfl rfl rfl (by decide) rfl (by decide) (by decide) (fun _ h => absurd h List.not_mem_nil) dX6_layer_8 rfl (Nat.le_of_ble_eq_true rfl) ⟨by decide, by decide⟩ (fun r u p_3 => ?_)
    obtain ⟨rfl, rfl⟩ := p_3
    refine g_perm (ws1 := [(x0, oo 6 [.ref a1, .ref h0, .ref p0, .ref a4, .ref a5, .int (iI lo)]), (p0, oo 4 [.int (iI mk), .int (iI px), .int (iI py), .int (iI pa), .int (iI pb), .int (iI nw), .ref w1, .ref w2, .int (iI np), .ref w3, .int (iI nq), .ref w4]), (w1, aI E 169 mo), (w3, aI E 576 zt), (w2, aI E 576 zc)]) [0, 1, 2, 3, 4] rfl (by decide) rfl ?_
    refine g_if_eq_b (tgt := 29) dX6_layer_11 rfl (fun c_4 => ?_) (fun c_4 => ?_)
    · refine g_iload_n 3 dX6_layer_14 rfl rfl ?_
      refine g_callS_i (n := 1) (As := [.int (iI qa)]) (wr := [(x0, oo 6 [.ref a1, .ref h0, .ref p0, .ref a4, .ref a5, .int (iI lo)]), (p0, oo 4 [.int (iI mk), .int (iI px), .int (iI py), .int (iI pa), .int (iI pb), .int (iI nw), .ref w1, .ref w2, .int (iI np), .ref w3, .int (iI nq), .ref w4]), (w1, aI E 169 mo), (w3, aI E 576 zt), (w2, aI E 576 zc)]) [] (c_X6_isSide E qa (by omega)) [] [0, 1, 2, 3, 4] gX6_layer_X6_isSide rfl ⟨rfl, by decide +kernel⟩ ⟨by decide, by decide⟩ rfl rfl rfl rfl rfl (by decide) rfl (by decide) (by decide) (fun _ h => absurd h List.not_mem_nil) dX6_layer_15 rfl (Nat.le_of_ble_eq_true rfl) ⟨by decide, by decide⟩ (fun r u p_5 => ?_)
      obtain ⟨rfl, rfl⟩ := p_5
      refine g_perm (ws1 := [(x0, oo 6 [.ref a1, .ref h0, .ref p0, .ref a4, .ref a5, .int (iI lo)]), (p0, oo 4 [.int (iI mk), .int (iI px), .int (iI py), .int (iI pa), .int (iI pb), .int (iI nw), .ref w1, .ref w2, .int (iI np), .ref w3, .int (iI nq), .ref w4]), (w1, aI E 169 mo), (w3, aI E 576 zt), (w2, aI E 576 zc)]) [0, 1, 2, 3, 4] rfl (by decide) rfl ?_
      refine g_if_eq_b (tgt := 29) dX6_layer_18 rfl (fun c_6 => ?_) (fun c_6 => ?_)
      · refine g_iload 4 dX6_layer_21 rfl ?_
        refine g_callS_i (n := 1) (As := [.int (iI qb)]) (wr := [(x0, oo 6 [.ref a1, .ref h0, .ref p0, .ref a4, .ref a5, .int (iI lo)]), (p0, oo 4 [.int (iI mk), .int (iI px), .int (iI py), .int (iI pa), .int (iI pb), .int (iI nw), .ref w1, .ref w2, .int (iI np), .ref w3, .int (iI nq), .ref w4]), (w1, aI E 169 mo), (w3, aI E 576 zt), (w2, aI E 576 zc)]) [] (c_X6_isSide E qb (by omega)) [] [0, 1, 2, 3, 4] gX6_layer_X6_isSide rfl ⟨rfl, by decide +kernel⟩ ⟨by decide, by decide⟩ rfl rfl rfl rfl rfl (by decide) rfl (by decide) (by decide) (fun _ h => absurd h List.not_mem_nil) dX6_layer_23 rfl (Nat.le_of_ble_eq_true rfl) ⟨by decide, by decide⟩ (fun r u p_7 => ?_)
        obtain ⟨rfl, rfl⟩ := p_7
        refine g_perm (ws1 := [(x0, oo 6 [.ref a1, .ref h0, .ref p0, .ref a4, .ref a5, .int (iI lo)]), (p0, oo 4 [.int (iI mk), .int (iI px), .int (iI py), .int (iI pa), .int (iI pb), .int (iI nw), .ref w1, .ref w2, .int (iI np), .ref w3, .int (iI nq), .ref w4]), (w1, aI E 169 mo), (w3, aI E 576 zt), (w2, aI E 576 zc)]) [0, 1, 2, 3, 4] rfl (by decide) rfl ?_
        refine g_if_ne_b (tgt := 31) dX6_layer_26 rfl (fun c_8 => ?_) (fun c_8 => ?_)
        · refine g_aload_n 0 dX6_layer_31 rfl rfl ?_
          refine g_get (C := RX6) (T := TX6) (N := 6) 0 2 (fun _ h => List.mem_cons_of_mem _ (List.mem_append_left _ (List.mem_append_right _ h))) (List.mem_of_getElem? (i := 1) rfl) rfl rfl (by decide) rfl rfl dX6_layer_32 ?_
          refine g_iload_n 1 dX6_layer_35 rfl rfl ?_
          refine g_iload_n 2 dX6_layer_36 rfl rfl ?_
          refine g_iload_n 3 dX6_layer_37 rfl rfl ?_
          refine g_iload 4 dX6_layer_38 rfl ?_
          refine g_callV_i (n := 4) (As := [.int (iI qx), .int (iI qy), .int (iI qa), .int (iI qb)]) (wr := [(x0, oo 6 [.ref a1, .ref h0, .ref p0, .ref a4, .ref a5, .int (iI lo)])]) (C := RX4) [] (c_X4_make E p0 w1 w2 w3 w4 mk px py pa pb nw np nq mo zt zc qx qy qa qb (by omega) (by omega) (by omega) (by omega) (by exact hmo)) [1, 2, 3, 4] [0] 0 rfl rfl gX6_layer_X4_make rfl ⟨rfl, by decide +kernel⟩ ⟨by decide, by decide⟩ rfl rfl rfl rfl rfl (by decide) rfl (by decide) (by decide) (fun _ h => absurd h List.not_mem_nil) dX6_layer_40 rfl (Nat.le_of_ble_eq_true rfl) ⟨by decide, by decide⟩ (fun r u p_9 => ?_)
          obtain ⟨nq2, np2, mo2, zt2, zc2, fl, hmo2, rfl, rfl⟩ := p_9
          obtain ⟨Ps, fl1, fl2⟩ := fl
          have hlen := rep_len fl2
          exact g_iret hRet dX6_layer_43 rfl ⟨np2, 1, qx, qy, qa, qb, (min qa qb), np2, nq2, mo2, zt2, zc2, (by unfold sp_layer; rw [if_neg (by omega)]; exact ⟨rfl, rfl, rfl, Ps, fl1, fl2⟩), (by rw [if_neg (by omega)]), (by exact hmo2), rfl, rfl⟩
        · refine g_iconst dX6_layer_29 ?_
          exact g_iret hRet dX6_layer_30 rfl ⟨(-1), mk, px, py, pa, pb, nw, np, nq, mo, zt, zc, (by unfold sp_layer; rw [if_pos (by omega)]; exact ⟨rfl, rfl, rfl, rfl, rfl⟩), (by rw [if_pos rfl]), (by exact hmo), rfl, rfl⟩
      · refine g_iconst dX6_layer_29 ?_
        exact g_iret hRet dX6_layer_30 rfl ⟨(-1), mk, px, py, pa, pb, nw, np, nq, mo, zt, zc, (by unfold sp_layer; rw [if_pos (by omega)]; exact ⟨rfl, rfl, rfl, rfl, rfl⟩), (by rw [if_pos rfl]), (by exact hmo), rfl, rfl⟩
    · refine g_iconst dX6_layer_29 ?_
      exact g_iret hRet dX6_layer_30 rfl ⟨(-1), mk, px, py, pa, pb, nw, np, nq, mo, zt, zc, (by unfold sp_layer; rw [if_pos (by omega)]; exact ⟨rfl, rfl, rfl, rfl, rfl⟩), (by rw [if_pos rfl]), (by exact hmo), rfl, rfl⟩
  · refine g_iconst dX6_layer_29 ?_
    exact g_iret hRet dX6_layer_30 rfl ⟨(-1), mk, px, py, pa, pb, nw, np, nq, mo, zt, zc, (by unfold sp_layer; rw [if_pos (by omega)]; exact ⟨rfl, rfl, rfl, rfl, rfl⟩), (by rw [if_pos rfl]), (by exact hmo), rfl, rfl⟩

set_option maxHeartbeats 4000000 in
set_option maxRecDepth 100000 in
theorem c_X6_planned (E : Ev) (x0 : Nat) (a1 : Nat) (h0 : Nat) (a4 : Nat) (a5 : Nat) (lo : Int) (p0 : Nat) (w1 : Nat) (w2 : Nat) (w3 : Nat) (w4 : Nat) (mk : Int) (px : Int) (py : Int) (pa : Int) (pb : Int) (nw : Int) (np : Int) (nq : Int) (zc : Int → Int) (i : Int) (what : Int) (h_i : -2147483648 ≤ i ∧ i ≤ 2147483647) (h_what : -2147483648 ≤ what ∧ what ≤ 2147483647) (hmk : mk = 0 ∨ mk = 1) (hnp : 0 ≤ np ∧ np ≤ 144) : MI yX6_planned wsX6_planned ({ frames := 1, cells := 0, slots := 0, locals := 22 } : Room) E [] 0 0 [.ref x0, .int (iI i), .int (iI what)] [(x0, oo 6 [.ref a1, .ref h0, .ref p0, .ref a4, .ref a5, .int (iI lo)]), (p0, oo 4 [.int (iI mk), .int (iI px), .int (iI py), .int (iI pa), .int (iI pb), .int (iI nw), .ref w1, .ref w2, .int (iI np), .ref w3, .int (iI nq), .ref w4]), (w2, aI E 576 zc)] (fun r u => r = iI (f_planned mk np zc i what) ∧ u = [(x0, oo 6 [.ref a1, .ref h0, .ref p0, .ref a4, .ref a5, .int (iI lo)]), (p0, oo 4 [.int (iI mk), .int (iI px), .int (iI py), .int (iI pa), .int (iI pb), .int (iI nw), .ref w1, .ref w2, .int (iI np), .ref w3, .int (iI nq), .ref w4]), (w2, aI E 576 zc)]) := by
  refine MI.of (cc := cX6_planned) (maxL := 3) (own := RX6) (by decide) rfl rfl rfl (Nat.le_of_ble_eq_true rfl) [(0, .ref x0), (1, .int (iI i)), (2, .int (iI what))] rfl ?_
  intro X hin2 hRet
  refine g_iload_n 1 dX6_planned_0 rfl rfl ?_
  refine g_if_lt (tgt := 13) (by unfold R32; omega) dX6_planned_1 rfl (fun c_1 => ?_) (fun c_1 => ?_)
  · refine g_iconst dX6_planned_13 ?_
    exact g_iret hRet dX6_planned_14 rfl ⟨(congrArg iI (by unfold f_planned; first | exact (if_pos (by omega)).symm | exact ((if_neg (by omega)).trans (if_pos (by omega))).symm | exact ((if_neg (by omega)).trans (if_neg (by omega))).symm)), rfl⟩
  · refine g_iload_n 2 dX6_planned_4 rfl rfl ?_
    refine g_iconst dX6_planned_5 ?_
    refine g_iconst dX6_planned_6 ?_
    refine g_callS_i (n := 3) (As := [.int (iI what), .int (iI 0), .int (iI 3)]) (wr := [(x0, oo 6 [.ref a1, .ref h0, .ref p0, .ref a4, .ref a5, .int (iI lo)]), (p0, oo 4 [.int (iI mk), .int (iI px), .int (iI py), .int (iI pa), .int (iI pb), .int (iI nw), .ref w1, .ref w2, .int (iI np), .ref w3, .int (iI nq), .ref w4]), (w2, aI E 576 zc)]) [] (c_X6_within E what 0 3 (by omega) (by omega) (by omega)) [] [0, 1, 2] gX6_planned_X6_within rfl ⟨rfl, by decide +kernel⟩ ⟨by decide, by decide⟩ rfl rfl rfl rfl rfl (by decide) rfl (by decide) (by decide) (fun _ h => absurd h List.not_mem_nil) dX6_planned_7 rfl (Nat.le_of_ble_eq_true rfl) ⟨by decide, by decide⟩ (fun r u p_2 => ?_)
    obtain ⟨rfl, rfl⟩ := p_2
    refine g_perm (ws1 := [(x0, oo 6 [.ref a1, .ref h0, .ref p0, .ref a4, .ref a5, .int (iI lo)]), (p0, oo 4 [.int (iI mk), .int (iI px), .int (iI py), .int (iI pa), .int (iI pb), .int (iI nw), .ref w1, .ref w2, .int (iI np), .ref w3, .int (iI nq), .ref w4]), (w2, aI E 576 zc)]) [0, 1, 2] rfl (by decide) rfl ?_
    refine g_if_ne_b (tgt := 15) dX6_planned_10 rfl (fun c_3 => ?_) (fun c_3 => ?_)
    · refine g_aload_n 0 dX6_planned_15 rfl rfl ?_
      refine g_get (C := RX6) (T := TX6) (N := 6) 0 2 (fun _ h => List.mem_cons_of_mem _ (List.mem_append_left _ (List.mem_append_right _ h))) (List.mem_of_getElem? (i := 1) rfl) rfl rfl (by decide) rfl rfl dX6_planned_16 ?_
      refine g_get (C := RX4) (T := TX4) (N := 12) 1 0 (fun _ h => List.mem_cons_of_mem _ (List.mem_append_right _ h)) (List.mem_of_getElem? (i := 2) rfl) rfl rfl (by decide) rfl rfl dX6_planned_19 ?_
      refine g_if_eq (tgt := 37) (by unfold R32; omega) dX6_planned_22 rfl (fun c_4 => ?_) (fun c_4 => ?_)
      · refine g_bipush dX6_planned_37 rfl ?_
        exact g_iret hRet dX6_planned_39 rfl ⟨(congrArg iI (by unfold f_planned; first | exact (if_pos (by omega)).symm | exact ((if_neg (by omega)).trans (if_pos (by omega))).symm | exact ((if_neg (by omega)).trans (if_neg (by omega))).symm)), rfl⟩
      · refine g_aload_n 0 dX6_planned_25 rfl rfl ?_
        refine g_get (C := RX6) (T := TX6) (N := 6) 0 2 (fun _ h => List.mem_cons_of_mem _ (List.mem_append_left _ (List.mem_append_right _ h))) (List.mem_of_getElem? (i := 1) rfl) rfl rfl (by decide) rfl rfl dX6_planned_26 ?_
        refine g_iload_n 1 dX6_planned_29 rfl rfl ?_
        refine g_iload_n 2 dX6_planned_30 rfl rfl ?_
        refine g_callV_i (n := 2) (As := [.int (iI i), .int (iI what)]) (wr := [(x0, oo 6 [.ref a1, .ref h0, .ref p0, .ref a4, .ref a5, .int (iI lo)])]) (C := RX4) [] (c_X4_numberOf E p0 w1 w2 w3 w4 mk px py pa pb nw np nq zc i what (by omega) (by omega) (by omega)) [1, 2] [0] 0 rfl rfl gX6_planned_X4_numberOf rfl ⟨rfl, by decide +kernel⟩ ⟨by decide, by decide⟩ rfl rfl rfl rfl rfl (by decide) rfl (by decide) (by decide) (fun _ h => absurd h List.not_mem_nil) dX6_planned_31 rfl (Nat.le_of_ble_eq_true rfl) ⟨by decide, by decide⟩ (fun r u p_5 => ?_)
        obtain ⟨rfl, rfl⟩ := p_5
        refine g_goto (tgt := 39) dX6_planned_34 rfl ?_
        exact g_iret hRet dX6_planned_39 rfl ⟨(congrArg iI (by unfold f_planned; first | exact (if_pos (by omega)).symm | exact ((if_neg (by omega)).trans (if_pos (by omega))).symm | exact ((if_neg (by omega)).trans (if_neg (by omega))).symm)), rfl⟩
    · refine g_iconst dX6_planned_13 ?_
      exact g_iret hRet dX6_planned_14 rfl ⟨(congrArg iI (by unfold f_planned; first | exact (if_pos (by omega)).symm | exact ((if_neg (by omega)).trans (if_pos (by omega))).symm | exact ((if_neg (by omega)).trans (if_neg (by omega))).symm)), rfl⟩

end PLAN1
