section CODES
set_option maxHeartbeats 4000000 in
set_option maxRecDepth 100000 in
theorem c_X6_within (E : Ev) (v : Int) (lo : Int) (hi : Int) (hv : -2147483648 ≤ v ∧ v ≤ 2147483647) (hlo : -2147483648 ≤ lo ∧ lo ≤ 2147483647) (hhi : -2147483648 ≤ hi ∧ hi ≤ 2147483647) : MI yX6_within wsX6_within ({ frames := 0, cells := 0, slots := 0, locals := 0 } : Room) E [] 0 0 [.int (iI v), .int (iI lo), .int (iI hi)] [] (fun r u => r = iI (bI (lo ≤ v ∧ v ≤ hi)) ∧ u = []) := by
  refine MI.of (cc := cX6_within) (maxL := 3) (own := RX6) (by decide) rfl rfl rfl (Nat.le_of_ble_eq_true rfl) [(0, .int (iI v)), (1, .int (iI lo)), (2, .int (iI hi))] rfl ?_
  intro X hin2 hRet
  refine g_iload_n 1 dX6_within_0 rfl rfl ?_
  refine g_iload_n 0 dX6_within_1 rfl rfl ?_
  refine g_icmp_gt (tgt := 14) (by unfold R32; omega) (by unfold R32; omega) dX6_within_2 rfl (fun c_1 => ?_) (fun c_1 => ?_)
  · refine g_iconst dX6_within_14 ?_
    exact g_iret hRet dX6_within_15 rfl ⟨(bI_f (by omega)), rfl⟩
  · refine g_iload_n 0 dX6_within_5 rfl rfl ?_
    refine g_iload_n 2 dX6_within_6 rfl rfl ?_
    refine g_icmp_gt (tgt := 14) (by unfold R32; omega) (by unfold R32; omega) dX6_within_7 rfl (fun c_2 => ?_) (fun c_2 => ?_)
    · refine g_iconst dX6_within_14 ?_
      exact g_iret hRet dX6_within_15 rfl ⟨(bI_f (by omega)), rfl⟩
    · refine g_iconst dX6_within_10 ?_
      refine g_goto (tgt := 15) dX6_within_11 rfl ?_
      exact g_iret hRet dX6_within_15 rfl ⟨(bI_t (by omega)), rfl⟩

set_option maxHeartbeats 4000000 in
set_option maxRecDepth 100000 in
theorem c_X6_isBox (E : Ev) (v : Int) (hv : -2147483648 ≤ v ∧ v ≤ 2147483647) : MI yX6_isBox wsX6_isBox ({ frames := 1, cells := 0, slots := 0, locals := 22 } : Room) E [] 0 0 [.int (iI v)] [] (fun r u => r = iI (bI (0 ≤ v ∧ v ≤ 29)) ∧ u = []) := by
  refine MI.of (cc := cX6_isBox) (maxL := 1) (own := RX6) (by decide) rfl rfl rfl (Nat.le_of_ble_eq_true rfl) [(0, .int (iI v))] rfl ?_
  intro X hin2 hRet
  refine g_iload_n 0 dX6_isBox_0 rfl rfl ?_
  refine g_iconst dX6_isBox_1 ?_
  refine g_bipush dX6_isBox_2 rfl ?_
  refine g_callS_i (As := [.int (iI v), .int (iI 0), .int (iI 29)]) (wr := []) [] (c_X6_within E v 0 29 (by omega) (by omega) (by omega)) [] [] gX6_isBox_X6_within rfl ⟨rfl, by decide +kernel⟩ ⟨by decide, by decide⟩ rfl rfl rfl rfl rfl (by decide) rfl (by decide) (by decide) (fun _ h => absurd h List.not_mem_nil) dX6_isBox_4 rfl (Nat.le_of_ble_eq_true rfl) ⟨by decide, by decide⟩ (fun r u p_1 => ?_)
  obtain ⟨rfl, rfl⟩ := p_1
  refine g_perm (ws1 := []) [] rfl (by decide) rfl ?_
  exact g_iret hRet dX6_isBox_7 (nar_b _) ⟨rfl, rfl⟩

set_option maxHeartbeats 4000000 in
set_option maxRecDepth 100000 in
theorem c_X6_isPallet (E : Ev) (v : Int) (hv : -2147483648 ≤ v ∧ v ≤ 2147483647) : MI yX6_isPallet wsX6_isPallet ({ frames := 1, cells := 0, slots := 0, locals := 22 } : Room) E [] 0 0 [.int (iI v)] [] (fun r u => r = iI (bI (0 ≤ v ∧ v ≤ 5)) ∧ u = []) := by
  refine MI.of (cc := cX6_isPallet) (maxL := 1) (own := RX6) (by decide) rfl rfl rfl (Nat.le_of_ble_eq_true rfl) [(0, .int (iI v))] rfl ?_
  intro X hin2 hRet
  refine g_iload_n 0 dX6_isPallet_0 rfl rfl ?_
  refine g_iconst dX6_isPallet_1 ?_
  refine g_iconst dX6_isPallet_2 ?_
  refine g_callS_i (As := [.int (iI v), .int (iI 0), .int (iI 5)]) (wr := []) [] (c_X6_within E v 0 5 (by omega) (by omega) (by omega)) [] [] gX6_isPallet_X6_within rfl ⟨rfl, by decide +kernel⟩ ⟨by decide, by decide⟩ rfl rfl rfl rfl rfl (by decide) rfl (by decide) (by decide) (fun _ h => absurd h List.not_mem_nil) dX6_isPallet_3 rfl (Nat.le_of_ble_eq_true rfl) ⟨by decide, by decide⟩ (fun r u p_1 => ?_)
  obtain ⟨rfl, rfl⟩ := p_1
  refine g_perm (ws1 := []) [] rfl (by decide) rfl ?_
  exact g_iret hRet dX6_isPallet_6 (nar_b _) ⟨rfl, rfl⟩

set_option maxHeartbeats 4000000 in
set_option maxRecDepth 100000 in
theorem c_X6_isSide (E : Ev) (v : Int) (hv : -2147483648 ≤ v ∧ v ≤ 2147483647) : MI yX6_isSide wsX6_isSide ({ frames := 1, cells := 0, slots := 0, locals := 22 } : Room) E [] 0 0 [.int (iI v)] [] (fun r u => r = iI (bI (1 ≤ v ∧ v ≤ 12)) ∧ u = []) := by
  refine MI.of (cc := cX6_isSide) (maxL := 1) (own := RX6) (by decide) rfl rfl rfl (Nat.le_of_ble_eq_true rfl) [(0, .int (iI v))] rfl ?_
  intro X hin2 hRet
  refine g_iload_n 0 dX6_isSide_0 rfl rfl ?_
  refine g_iconst dX6_isSide_1 ?_
  refine g_bipush dX6_isSide_2 rfl ?_
  refine g_callS_i (As := [.int (iI v), .int (iI 1), .int (iI 12)]) (wr := []) [] (c_X6_within E v 1 12 (by omega) (by omega) (by omega)) [] [] gX6_isSide_X6_within rfl ⟨rfl, by decide +kernel⟩ ⟨by decide, by decide⟩ rfl rfl rfl rfl rfl (by decide) rfl (by decide) (by decide) (fun _ h => absurd h List.not_mem_nil) dX6_isSide_4 rfl (Nat.le_of_ble_eq_true rfl) ⟨by decide, by decide⟩ (fun r u p_1 => ?_)
  obtain ⟨rfl, rfl⟩ := p_1
  refine g_perm (ws1 := []) [] rfl (by decide) rfl ?_
  exact g_iret hRet dX6_isSide_7 (nar_b _) ⟨rfl, rfl⟩

set_option maxHeartbeats 4000000 in
set_option maxRecDepth 100000 in
theorem c_X6_isKind (E : Ev) (v : Int) (hv : -2147483648 ≤ v ∧ v ≤ 2147483647) : MI yX6_isKind wsX6_isKind ({ frames := 0, cells := 0, slots := 0, locals := 0 } : Room) E [] 0 0 [.int (iI v)] [] (fun r u => r = iI (bI (0 ≤ v ∧ v ≤ 5)) ∧ u = []) := by
  refine MI.of (cc := cX6_isKind) (maxL := 1) (own := RX6) (by decide) rfl rfl rfl (Nat.le_of_ble_eq_true rfl) [(0, .int (iI v))] rfl ?_
  intro X hin2 hRet
  refine g_iload_n 0 dX6_isKind_0 rfl rfl ?_
  refine g_if_lt (tgt := 14) (by unfold R32; omega) dX6_isKind_1 rfl (fun c_1 => ?_) (fun c_1 => ?_)
  · refine g_iconst dX6_isKind_14 ?_
    exact g_iret hRet dX6_isKind_15 rfl ⟨(bI_f (by omega)), rfl⟩
  · refine g_iload_n 0 dX6_isKind_4 rfl rfl ?_
    refine g_bipush dX6_isKind_5 rfl ?_
    refine g_icmp_ge (tgt := 14) (by unfold R32; omega) (by unfold R32; omega) dX6_isKind_7 rfl (fun c_2 => ?_) (fun c_2 => ?_)
    · refine g_iconst dX6_isKind_14 ?_
      exact g_iret hRet dX6_isKind_15 rfl ⟨(bI_f (by omega)), rfl⟩
    · refine g_iconst dX6_isKind_10 ?_
      refine g_goto (tgt := 15) dX6_isKind_11 rfl ?_
      exact g_iret hRet dX6_isKind_15 rfl ⟨(bI_t (by omega)), rfl⟩

set_option maxHeartbeats 4000000 in
set_option maxRecDepth 100000 in
theorem c_X0_known (E : Ev) (h0 : Nat) (b1 : Nat) (b2 : Nat) (b3 : Nat) (b4 : Nat) (b5 : Nat) (b6 : Nat) (b7 : Nat) (b8 : Nat) (cn : Int) (code : Int) (hcn : 0 ≤ cn ∧ cn ≤ 200) (h_code : -2147483648 ≤ code ∧ code ≤ 2147483647) : MI yX0_known wsX0_known ({ frames := 1, cells := 0, slots := 0, locals := 22 } : Room) E [] 0 0 [.ref h0, .int (iI code)] [(h0, oo 0 [.int (iI cn), .ref b1, .ref b2, .ref b3, .ref b4, .ref b5, .ref b6, .ref b7, .ref b8])] (fun r u => r = iI (bI (0 ≤ code ∧ code ≤ cn - 1)) ∧ u = [(h0, oo 0 [.int (iI cn), .ref b1, .ref b2, .ref b3, .ref b4, .ref b5, .ref b6, .ref b7, .ref b8])]) := by
  refine MI.of (cc := cX0_known) (maxL := 2) (own := RX0) (by decide) rfl rfl rfl (Nat.le_of_ble_eq_true rfl) [(0, .ref h0), (1, .int (iI code))] rfl ?_
  intro X hin2 hRet
  refine g_iload_n 1 dX0_known_0 rfl rfl ?_
  refine g_iconst dX0_known_1 ?_
  refine g_aload_n 0 dX0_known_2 rfl rfl ?_
  refine g_get (C := RX0) (T := TX0) (N := 9) 0 0 (fun _ h => List.mem_cons_of_mem _ (List.mem_append_right _ h)) (List.mem_of_getElem? (i := 1) rfl) rfl rfl (by decide) rfl rfl dX0_known_3 ?_
  refine g_iconst dX0_known_6 ?_
  refine g_isub dX0_known_7 ?_
  refine g_callN_i (As := [.int (iI code), .int (iI 0), .int (iI (cn - 1))]) (wr := [(h0, oo 0 [.int (iI cn), .ref b1, .ref b2, .ref b3, .ref b4, .ref b5, .ref b6, .ref b7, .ref b8])]) [] (c_X6_within E code 0 (cn - 1) (by omega) (by omega) (by omega)) [] [0] gX0_known_X6_within_n47 (fun _ h => h.2.2.2.2.2.1) (List.mem_of_getElem? (i := 3) rfl) (List.mem_of_getElem? (i := 2) rfl) rfl (by decide +kernel) ⟨by decide, by decide⟩ rfl rfl rfl rfl rfl (by decide) rfl (by decide) (by decide) (fun _ h => absurd h List.not_mem_nil) dX0_known_8 rfl (Nat.le_of_ble_eq_true rfl) ⟨by decide, by decide⟩ (fun r u p_1 => ?_)
  obtain ⟨rfl, rfl⟩ := p_1
  refine g_perm (ws1 := [(h0, oo 0 [.int (iI cn), .ref b1, .ref b2, .ref b3, .ref b4, .ref b5, .ref b6, .ref b7, .ref b8])]) [0] rfl (by decide) rfl ?_
  exact g_iret hRet dX0_known_11 (nar_b _) ⟨(bI_c (by omega)), rfl⟩

end CODES
