section FACE2B
set_option maxHeartbeats 4000000 in
set_option maxRecDepth 100000 in
theorem c_X1_allOnLine (E : Ev) (v : Nat) (ma : Nat) (fo : Nat) (la : Nat) (M : Int) (ti : Int) (so : Int) (ta : Int) (go : Int) (sl : Int) (mq : Int → Option Nat) (ad : Int → Nat) (sd : Int → Nat) (g : Int → Int → Int) (hM : 2 ≤ M ∧ M ≤ 6) (hti : 0 ≤ ti ∧ ti ≤ 10000) (hso : 0 ≤ so ∧ so ≤ 100000) (hgo : 0 ≤ go ∧ go ≤ 20000) (hmq : ∀ k, 0 ≤ k → k < 6 → mq k = some (ad k)) (hgk : ∀ j, 0 ≤ j → j < 6 → mOk (g j)) : MI yX1_allOnLine wsX1_allOnLine ({ frames := 2, cells := 0, slots := 0, locals := 41 } : Room) E [] 0 0 [.ref v] [(v, oo 1 [.ref ma, .int (iI M), .ref fo, .ref la, .int (iI ti), .int (iI so), .int (iI ta), .int (iI go), .int (iI sl)]), (ma, aM E 6 mq), (ad 0, oo 3 (fMa 0 .null (sd 0) (g 0))), (ad 1, oo 3 (fMa 1 (.ref (ad 0)) (sd 1) (g 1))), (ad 2, oo 3 (fMa 2 (.ref (ad 1)) (sd 2) (g 2))), (ad 3, oo 3 (fMa 3 (.ref (ad 2)) (sd 3) (g 3))), (ad 4, oo 3 (fMa 4 (.ref (ad 3)) (sd 4) (g 4))), (ad 5, oo 3 (fMa 5 (.ref (ad 4)) (sd 5) (g 5)))] (fun r u => r = iI (sI (oF g) M) ∧ u = [(v, oo 1 [.ref ma, .int (iI M), .ref fo, .ref la, .int (iI ti), .int (iI so), .int (iI ta), .int (iI go), .int (iI sl)]), (ma, aM E 6 mq), (ad 0, oo 3 (fMa 0 .null (sd 0) (g 0))), (ad 1, oo 3 (fMa 1 (.ref (ad 0)) (sd 1) (g 1))), (ad 2, oo 3 (fMa 2 (.ref (ad 1)) (sd 2) (g 2))), (ad 3, oo 3 (fMa 3 (.ref (ad 2)) (sd 3) (g 3))), (ad 4, oo 3 (fMa 4 (.ref (ad 3)) (sd 4) (g 4))), (ad 5, oo 3 (fMa 5 (.ref (ad 4)) (sd 5) (g 5)))]) := by
  refine MI.of (cc := cX1_allOnLine) (maxL := 3) (own := RX1) (by decide) rfl rfl rfl (Nat.le_of_ble_eq_true rfl) [(0, .ref v)] rfl ?_
  intro X hin2 hRet
  have K7_N : ∀ (w : Int) (hw : w + sI (oF g) 0 = sI (oF g) M), G X ({ frames := 2, cells := 0, slots := 0, locals := 41 } : Room) cX1_allOnLine 3 RX1 wsX1_allOnLine E [] 0 0 [(v, oo 1 [.ref ma, .int (iI M), .ref fo, .ref la, .int (iI ti), .int (iI so), .int (iI ta), .int (iI go), .int (iI sl)]), (ma, aM E 6 mq), (ad 0, oo 3 (fMa 0 .null (sd 0) (g 0))), (ad 1, oo 3 (fMa 1 (.ref (ad 0)) (sd 1) (g 1))), (ad 2, oo 3 (fMa 2 (.ref (ad 1)) (sd 2) (g 2))), (ad 3, oo 3 (fMa 3 (.ref (ad 2)) (sd 3) (g 3))), (ad 4, oo 3 (fMa 4 (.ref (ad 3)) (sd 4) (g 4))), (ad 5, oo 3 (fMa 5 (.ref (ad 4)) (sd 5) (g 5)))] [(0, .ref v), (1, .int (iI w)), (2, .null)] 7 [] := by
    intro w hw
    refine g_aload_nN 2 dX1_allOnLine_7 rfl rfl ?_
    refine g_ifnullN (tgt := 31) dX1_allOnLine_8 rfl ?_
    refine g_iload_n 1 dX1_allOnLine_31 rfl rfl ?_
    exact g_iret hRet dX1_allOnLine_32 rfl ⟨(congrArg iI (by have e9 := sI_0 (oF g); omega)), rfl⟩
  have K7_0 : ∀ (w : Int) (hw : w + sI (oF g) 1 = sI (oF g) M), G X ({ frames := 2, cells := 0, slots := 0, locals := 41 } : Room) cX1_allOnLine 3 RX1 wsX1_allOnLine E [] 0 0 [(v, oo 1 [.ref ma, .int (iI M), .ref fo, .ref la, .int (iI ti), .int (iI so), .int (iI ta), .int (iI go), .int (iI sl)]), (ma, aM E 6 mq), (ad 0, oo 3 (fMa 0 .null (sd 0) (g 0))), (ad 1, oo 3 (fMa 1 (.ref (ad 0)) (sd 1) (g 1))), (ad 2, oo 3 (fMa 2 (.ref (ad 1)) (sd 2) (g 2))), (ad 3, oo 3 (fMa 3 (.ref (ad 2)) (sd 3) (g 3))), (ad 4, oo 3 (fMa 4 (.ref (ad 3)) (sd 4) (g 4))), (ad 5, oo 3 (fMa 5 (.ref (ad 4)) (sd 5) (g 5)))] [(0, .ref v), (1, .int (iI w)), (2, .ref (ad 0))] 7 [] := by
    intro w hw
    refine g_aload_n 2 dX1_allOnLine_7 rfl rfl ?_
    refine g_ifnull dX1_allOnLine_8 ?_
    refine g_iload_n 1 dX1_allOnLine_11 rfl rfl ?_
    refine g_aload_n 2 dX1_allOnLine_12 rfl rfl ?_
    refine g_callV_i (n := 0) (As := []) (wr := [(v, oo 1 [.ref ma, .int (iI M), .ref fo, .ref la, .int (iI ti), .int (iI so), .int (iI ta), .int (iI go), .int (iI sl)]), (ma, aM E 6 mq), (ad 1, oo 3 (fMa 1 (.ref (ad 0)) (sd 1) (g 1))), (ad 2, oo 3 (fMa 2 (.ref (ad 1)) (sd 2) (g 2))), (ad 3, oo 3 (fMa 3 (.ref (ad 2)) (sd 3) (g 3))), (ad 4, oo 3 (fMa 4 (.ref (ad 3)) (sd 4) (g 4))), (ad 5, oo 3 (fMa 5 (.ref (ad 4)) (sd 5) (g 5)))]) (C := RX3) [.int (iI w)] (c_X3_unitsInside E (ad 0) (sd 0) 0 .null (g 0) (by exact hgk 0 (by omega) (by omega))) [2] [0, 1, 3, 4, 5, 6, 7] 0 rfl rfl gX1_allOnLine_X3_unitsInside rfl ⟨rfl, by decide +kernel⟩ ⟨by decide, by decide⟩ rfl rfl rfl rfl rfl (by decide) rfl (by decide) (by decide) (fun _ h => absurd h List.not_mem_nil) dX1_allOnLine_13 rfl (Nat.le_of_ble_eq_true rfl) ⟨by decide, by decide⟩ (fun r u p_1 => ?_)
    obtain ⟨rfl, rfl⟩ := p_1
    refine g_perm (ws1 := [(v, oo 1 [.ref ma, .int (iI M), .ref fo, .ref la, .int (iI ti), .int (iI so), .int (iI ta), .int (iI go), .int (iI sl)]), (ma, aM E 6 mq), (ad 0, oo 3 (fMa 0 .null (sd 0) (g 0))), (ad 1, oo 3 (fMa 1 (.ref (ad 0)) (sd 1) (g 1))), (ad 2, oo 3 (fMa 2 (.ref (ad 1)) (sd 2) (g 2))), (ad 3, oo 3 (fMa 3 (.ref (ad 2)) (sd 3) (g 3))), (ad 4, oo 3 (fMa 4 (.ref (ad 3)) (sd 4) (g 4))), (ad 5, oo 3 (fMa 5 (.ref (ad 4)) (sd 5) (g 5)))]) [0, 1, 7, 2, 3, 4, 5, 6] rfl (by decide) rfl ?_
    refine g_aload_n 2 dX1_allOnLine_16 rfl rfl ?_
    refine g_get (v := .int (iI ((g 0) 0))) (C := RX3) (T := TX3) (N := 14) 2 3 (fun _ h => List.mem_cons_of_mem _ (List.mem_append_left _ (List.mem_append_right _ h))) (List.mem_of_getElem? (i := 1) rfl) rfl rfl (by decide) rfl rfl dX1_allOnLine_17 ?_
    refine g_iadd dX1_allOnLine_20 ?_
    refine g_iadd dX1_allOnLine_21 ?_
    refine g_istore_n (lv1 := [(1, .int (iI (w + ((bI ((g 0) 1 ≠ 0 ∨ (g 0) 2 ≠ 0)) + ((g 0) 0))))), (0, .ref v), (2, .ref (ad 0))]) dX1_allOnLine_22 rfl (by decide) rfl ?_
    refine g_aload_n 2 dX1_allOnLine_23 rfl rfl ?_
    refine g_get (v := .null) (C := RX3) (T := TX3) (N := 14) 2 1 (fun _ h => List.mem_cons_of_mem _ (List.mem_append_left _ (List.mem_append_right _ h))) (List.mem_of_getElem? (i := 2) rfl) rfl rfl (by decide) rfl rfl dX1_allOnLine_24 ?_
    refine g_astore_nN (lv1 := [(2, .null), (1, .int (iI (w + ((bI ((g 0) 1 ≠ 0 ∨ (g 0) 2 ≠ 0)) + ((g 0) 0))))), (0, .ref v)]) dX1_allOnLine_27 rfl (by decide) rfl ?_
    refine g_goto (tgt := 7) dX1_allOnLine_28 rfl ?_
    refine g_lv (lv1 := [(0, .ref v), (1, .int (iI (w + ((bI ((g 0) 1 ≠ 0 ∨ (g 0) 2 ≠ 0)) + ((g 0) 0))))), (2, .null)]) [2, 1, 0] rfl ?_
    exact K7_N (w + ((bI ((g 0) 1 ≠ 0 ∨ (g 0) 2 ≠ 0)) + ((g 0) 0))) (by have e9 : sI (oF g) 1 = sI (oF g) 0 + (bI (g 0 1 ≠ 0 ∨ g 0 2 ≠ 0) + g 0 0) := sI_s (oF g) (i := 0) (by omega); omega)
  have K7_1 : ∀ (w : Int) (hw : w + sI (oF g) 2 = sI (oF g) M), G X ({ frames := 2, cells := 0, slots := 0, locals := 41 } : Room) cX1_allOnLine 3 RX1 wsX1_allOnLine E [] 0 0 [(v, oo 1 [.ref ma, .int (iI M), .ref fo, .ref la, .int (iI ti), .int (iI so), .int (iI ta), .int (iI go), .int (iI sl)]), (ma, aM E 6 mq), (ad 0, oo 3 (fMa 0 .null (sd 0) (g 0))), (ad 1, oo 3 (fMa 1 (.ref (ad 0)) (sd 1) (g 1))), (ad 2, oo 3 (fMa 2 (.ref (ad 1)) (sd 2) (g 2))), (ad 3, oo 3 (fMa 3 (.ref (ad 2)) (sd 3) (g 3))), (ad 4, oo 3 (fMa 4 (.ref (ad 3)) (sd 4) (g 4))), (ad 5, oo 3 (fMa 5 (.ref (ad 4)) (sd 5) (g 5)))] [(0, .ref v), (1, .int (iI w)), (2, .ref (ad 1))] 7 [] := by
    intro w hw
    refine g_aload_n 2 dX1_allOnLine_7 rfl rfl ?_
    refine g_ifnull dX1_allOnLine_8 ?_
    refine g_iload_n 1 dX1_allOnLine_11 rfl rfl ?_
    refine g_aload_n 2 dX1_allOnLine_12 rfl rfl ?_
    refine g_callV_i (n := 0) (As := []) (wr := [(v, oo 1 [.ref ma, .int (iI M), .ref fo, .ref la, .int (iI ti), .int (iI so), .int (iI ta), .int (iI go), .int (iI sl)]), (ma, aM E 6 mq), (ad 0, oo 3 (fMa 0 .null (sd 0) (g 0))), (ad 2, oo 3 (fMa 2 (.ref (ad 1)) (sd 2) (g 2))), (ad 3, oo 3 (fMa 3 (.ref (ad 2)) (sd 3) (g 3))), (ad 4, oo 3 (fMa 4 (.ref (ad 3)) (sd 4) (g 4))), (ad 5, oo 3 (fMa 5 (.ref (ad 4)) (sd 5) (g 5)))]) (C := RX3) [.int (iI w)] (c_X3_unitsInside E (ad 1) (sd 1) 1 (.ref (ad 0)) (g 1) (by exact hgk 1 (by omega) (by omega))) [3] [0, 1, 2, 4, 5, 6, 7] 0 rfl rfl gX1_allOnLine_X3_unitsInside rfl ⟨rfl, by decide +kernel⟩ ⟨by decide, by decide⟩ rfl rfl rfl rfl rfl (by decide) rfl (by decide) (by decide) (fun _ h => absurd h List.not_mem_nil) dX1_allOnLine_13 rfl (Nat.le_of_ble_eq_true rfl) ⟨by decide, by decide⟩ (fun r u p_2 => ?_)
    obtain ⟨rfl, rfl⟩ := p_2
    refine g_perm (ws1 := [(v, oo 1 [.ref ma, .int (iI M), .ref fo, .ref la, .int (iI ti), .int (iI so), .int (iI ta), .int (iI go), .int (iI sl)]), (ma, aM E 6 mq), (ad 0, oo 3 (fMa 0 .null (sd 0) (g 0))), (ad 1, oo 3 (fMa 1 (.ref (ad 0)) (sd 1) (g 1))), (ad 2, oo 3 (fMa 2 (.ref (ad 1)) (sd 2) (g 2))), (ad 3, oo 3 (fMa 3 (.ref (ad 2)) (sd 3) (g 3))), (ad 4, oo 3 (fMa 4 (.ref (ad 3)) (sd 4) (g 4))), (ad 5, oo 3 (fMa 5 (.ref (ad 4)) (sd 5) (g 5)))]) [0, 1, 2, 7, 3, 4, 5, 6] rfl (by decide) rfl ?_
    refine g_aload_n 2 dX1_allOnLine_16 rfl rfl ?_
    refine g_get (v := .int (iI ((g 1) 0))) (C := RX3) (T := TX3) (N := 14) 3 3 (fun _ h => List.mem_cons_of_mem _ (List.mem_append_left _ (List.mem_append_right _ h))) (List.mem_of_getElem? (i := 1) rfl) rfl rfl (by decide) rfl rfl dX1_allOnLine_17 ?_
    refine g_iadd dX1_allOnLine_20 ?_
    refine g_iadd dX1_allOnLine_21 ?_
    refine g_istore_n (lv1 := [(1, .int (iI (w + ((bI ((g 1) 1 ≠ 0 ∨ (g 1) 2 ≠ 0)) + ((g 1) 0))))), (0, .ref v), (2, .ref (ad 1))]) dX1_allOnLine_22 rfl (by decide) rfl ?_
    refine g_aload_n 2 dX1_allOnLine_23 rfl rfl ?_
    refine g_get (v := .ref (ad 0)) (C := RX3) (T := TX3) (N := 14) 3 1 (fun _ h => List.mem_cons_of_mem _ (List.mem_append_left _ (List.mem_append_right _ h))) (List.mem_of_getElem? (i := 2) rfl) rfl rfl (by decide) rfl rfl dX1_allOnLine_24 ?_
    refine g_astore_n (lv1 := [(2, .ref (ad 0)), (1, .int (iI (w + ((bI ((g 1) 1 ≠ 0 ∨ (g 1) 2 ≠ 0)) + ((g 1) 0))))), (0, .ref v)]) dX1_allOnLine_27 rfl (by decide) rfl ?_
    refine g_goto (tgt := 7) dX1_allOnLine_28 rfl ?_
    refine g_lv (lv1 := [(0, .ref v), (1, .int (iI (w + ((bI ((g 1) 1 ≠ 0 ∨ (g 1) 2 ≠ 0)) + ((g 1) 0))))), (2, .ref (ad 0))]) [2, 1, 0] rfl ?_
    exact K7_0 (w + ((bI ((g 1) 1 ≠ 0 ∨ (g 1) 2 ≠ 0)) + ((g 1) 0))) (by have e9 : sI (oF g) 2 = sI (oF g) 1 + (bI (g 1 1 ≠ 0 ∨ g 1 2 ≠ 0) + g 1 0) := sI_s (oF g) (i := 1) (by omega); omega)
  have K7_2 : ∀ (w : Int) (hw : w + sI (oF g) 3 = sI (oF g) M), G X ({ frames := 2, cells := 0, slots := 0, locals := 41 } : Room) cX1_allOnLine 3 RX1 wsX1_allOnLine E [] 0 0 [(v, oo 1 [.ref ma, .int (iI M), .ref fo, .ref la, .int (iI ti), .int (iI so), .int (iI ta), .int (iI go), .int (iI sl)]), (ma, aM E 6 mq), (ad 0, oo 3 (fMa 0 .null (sd 0) (g 0))), (ad 1, oo 3 (fMa 1 (.ref (ad 0)) (sd 1) (g 1))), (ad 2, oo 3 (fMa 2 (.ref (ad 1)) (sd 2) (g 2))), (ad 3, oo 3 (fMa 3 (.ref (ad 2)) (sd 3) (g 3))), (ad 4, oo 3 (fMa 4 (.ref (ad 3)) (sd 4) (g 4))), (ad 5, oo 3 (fMa 5 (.ref (ad 4)) (sd 5) (g 5)))] [(0, .ref v), (1, .int (iI w)), (2, .ref (ad 2))] 7 [] := by
    intro w hw
    refine g_aload_n 2 dX1_allOnLine_7 rfl rfl ?_
    refine g_ifnull dX1_allOnLine_8 ?_
    refine g_iload_n 1 dX1_allOnLine_11 rfl rfl ?_
    refine g_aload_n 2 dX1_allOnLine_12 rfl rfl ?_
    refine g_callV_i (n := 0) (As := []) (wr := [(v, oo 1 [.ref ma, .int (iI M), .ref fo, .ref la, .int (iI ti), .int (iI so), .int (iI ta), .int (iI go), .int (iI sl)]), (ma, aM E 6 mq), (ad 0, oo 3 (fMa 0 .null (sd 0) (g 0))), (ad 1, oo 3 (fMa 1 (.ref (ad 0)) (sd 1) (g 1))), (ad 3, oo 3 (fMa 3 (.ref (ad 2)) (sd 3) (g 3))), (ad 4, oo 3 (fMa 4 (.ref (ad 3)) (sd 4) (g 4))), (ad 5, oo 3 (fMa 5 (.ref (ad 4)) (sd 5) (g 5)))]) (C := RX3) [.int (iI w)] (c_X3_unitsInside E (ad 2) (sd 2) 2 (.ref (ad 1)) (g 2) (by exact hgk 2 (by omega) (by omega))) [4] [0, 1, 2, 3, 5, 6, 7] 0 rfl rfl gX1_allOnLine_X3_unitsInside rfl ⟨rfl, by decide +kernel⟩ ⟨by decide, by decide⟩ rfl rfl rfl rfl rfl (by decide) rfl (by decide) (by decide) (fun _ h => absurd h List.not_mem_nil) dX1_allOnLine_13 rfl (Nat.le_of_ble_eq_true rfl) ⟨by decide, by decide⟩ (fun r u p_3 => ?_)
    obtain ⟨rfl, rfl⟩ := p_3
    refine g_perm (ws1 := [(v, oo 1 [.ref ma, .int (iI M), .ref fo, .ref la, .int (iI ti), .int (iI so), .int (iI ta), .int (iI go), .int (iI sl)]), (ma, aM E 6 mq), (ad 0, oo 3 (fMa 0 .null (sd 0) (g 0))), (ad 1, oo 3 (fMa 1 (.ref (ad 0)) (sd 1) (g 1))), (ad 2, oo 3 (fMa 2 (.ref (ad 1)) (sd 2) (g 2))), (ad 3, oo 3 (fMa 3 (.ref (ad 2)) (sd 3) (g 3))), (ad 4, oo 3 (fMa 4 (.ref (ad 3)) (sd 4) (g 4))), (ad 5, oo 3 (fMa 5 (.ref (ad 4)) (sd 5) (g 5)))]) [0, 1, 2, 3, 7, 4, 5, 6] rfl (by decide) rfl ?_
    refine g_aload_n 2 dX1_allOnLine_16 rfl rfl ?_
    refine g_get (v := .int (iI ((g 2) 0))) (C := RX3) (T := TX3) (N := 14) 4 3 (fun _ h => List.mem_cons_of_mem _ (List.mem_append_left _ (List.mem_append_right _ h))) (List.mem_of_getElem? (i := 1) rfl) rfl rfl (by decide) rfl rfl dX1_allOnLine_17 ?_
    refine g_iadd dX1_allOnLine_20 ?_
    refine g_iadd dX1_allOnLine_21 ?_
    refine g_istore_n (lv1 := [(1, .int (iI (w + ((bI ((g 2) 1 ≠ 0 ∨ (g 2) 2 ≠ 0)) + ((g 2) 0))))), (0, .ref v), (2, .ref (ad 2))]) dX1_allOnLine_22 rfl (by decide) rfl ?_
    refine g_aload_n 2 dX1_allOnLine_23 rfl rfl ?_
    refine g_get (v := .ref (ad 1)) (C := RX3) (T := TX3) (N := 14) 4 1 (fun _ h => List.mem_cons_of_mem _ (List.mem_append_left _ (List.mem_append_right _ h))) (List.mem_of_getElem? (i := 2) rfl) rfl rfl (by decide) rfl rfl dX1_allOnLine_24 ?_
    refine g_astore_n (lv1 := [(2, .ref (ad 1)), (1, .int (iI (w + ((bI ((g 2) 1 ≠ 0 ∨ (g 2) 2 ≠ 0)) + ((g 2) 0))))), (0, .ref v)]) dX1_allOnLine_27 rfl (by decide) rfl ?_
    refine g_goto (tgt := 7) dX1_allOnLine_28 rfl ?_
    refine g_lv (lv1 := [(0, .ref v), (1, .int (iI (w + ((bI ((g 2) 1 ≠ 0 ∨ (g 2) 2 ≠ 0)) + ((g 2) 0))))), (2, .ref (ad 1))]) [2, 1, 0] rfl ?_
    exact K7_1 (w + ((bI ((g 2) 1 ≠ 0 ∨ (g 2) 2 ≠ 0)) + ((g 2) 0))) (by have e9 : sI (oF g) 3 = sI (oF g) 2 + (bI (g 2 1 ≠ 0 ∨ g 2 2 ≠ 0) + g 2 0) := sI_s (oF g) (i := 2) (by omega); omega)
  have K7_3 : ∀ (w : Int) (hw : w + sI (oF g) 4 = sI (oF g) M), G X ({ frames := 2, cells := 0, slots := 0, locals := 41 } : Room) cX1_allOnLine 3 RX1 wsX1_allOnLine E [] 0 0 [(v, oo 1 [.ref ma, .int (iI M), .ref fo, .ref la, .int (iI ti), .int (iI so), .int (iI ta), .int (iI go), .int (iI sl)]), (ma, aM E 6 mq), (ad 0, oo 3 (fMa 0 .null (sd 0) (g 0))), (ad 1, oo 3 (fMa 1 (.ref (ad 0)) (sd 1) (g 1))), (ad 2, oo 3 (fMa 2 (.ref (ad 1)) (sd 2) (g 2))), (ad 3, oo 3 (fMa 3 (.ref (ad 2)) (sd 3) (g 3))), (ad 4, oo 3 (fMa 4 (.ref (ad 3)) (sd 4) (g 4))), (ad 5, oo 3 (fMa 5 (.ref (ad 4)) (sd 5) (g 5)))] [(0, .ref v), (1, .int (iI w)), (2, .ref (ad 3))] 7 [] := by
    intro w hw
    refine g_aload_n 2 dX1_allOnLine_7 rfl rfl ?_
    refine g_ifnull dX1_allOnLine_8 ?_
    refine g_iload_n 1 dX1_allOnLine_11 rfl rfl ?_
    refine g_aload_n 2 dX1_allOnLine_12 rfl rfl ?_
    refine g_callV_i (n := 0) (As := []) (wr := [(v, oo 1 [.ref ma, .int (iI M), .ref fo, .ref la, .int (iI ti), .int (iI so), .int (iI ta), .int (iI go), .int (iI sl)]), (ma, aM E 6 mq), (ad 0, oo 3 (fMa 0 .null (sd 0) (g 0))), (ad 1, oo 3 (fMa 1 (.ref (ad 0)) (sd 1) (g 1))), (ad 2, oo 3 (fMa 2 (.ref (ad 1)) (sd 2) (g 2))), (ad 4, oo 3 (fMa 4 (.ref (ad 3)) (sd 4) (g 4))), (ad 5, oo 3 (fMa 5 (.ref (ad 4)) (sd 5) (g 5)))]) (C := RX3) [.int (iI w)] (c_X3_unitsInside E (ad 3) (sd 3) 3 (.ref (ad 2)) (g 3) (by exact hgk 3 (by omega) (by omega))) [5] [0, 1, 2, 3, 4, 6, 7] 0 rfl rfl gX1_allOnLine_X3_unitsInside rfl ⟨rfl, by decide +kernel⟩ ⟨by decide, by decide⟩ rfl rfl rfl rfl rfl (by decide) rfl (by decide) (by decide) (fun _ h => absurd h List.not_mem_nil) dX1_allOnLine_13 rfl (Nat.le_of_ble_eq_true rfl) ⟨by decide, by decide⟩ (fun r u p_4 => ?_)
    obtain ⟨rfl, rfl⟩ := p_4
    refine g_perm (ws1 := [(v, oo 1 [.ref ma, .int (iI M), .ref fo, .ref la, .int (iI ti), .int (iI so), .int (iI ta), .int (iI go), .int (iI sl)]), (ma, aM E 6 mq), (ad 0, oo 3 (fMa 0 .null (sd 0) (g 0))), (ad 1, oo 3 (fMa 1 (.ref (ad 0)) (sd 1) (g 1))), (ad 2, oo 3 (fMa 2 (.ref (ad 1)) (sd 2) (g 2))), (ad 3, oo 3 (fMa 3 (.ref (ad 2)) (sd 3) (g 3))), (ad 4, oo 3 (fMa 4 (.ref (ad 3)) (sd 4) (g 4))), (ad 5, oo 3 (fMa 5 (.ref (ad 4)) (sd 5) (g 5)))]) [0, 1, 2, 3, 4, 7, 5, 6] rfl (by decide) rfl ?_
    refine g_aload_n 2 dX1_allOnLine_16 rfl rfl ?_
    refine g_get (v := .int (iI ((g 3) 0))) (C := RX3) (T := TX3) (N := 14) 5 3 (fun _ h => List.mem_cons_of_mem _ (List.mem_append_left _ (List.mem_append_right _ h))) (List.mem_of_getElem? (i := 1) rfl) rfl rfl (by decide) rfl rfl dX1_allOnLine_17 ?_
    refine g_iadd dX1_allOnLine_20 ?_
    refine g_iadd dX1_allOnLine_21 ?_
    refine g_istore_n (lv1 := [(1, .int (iI (w + ((bI ((g 3) 1 ≠ 0 ∨ (g 3) 2 ≠ 0)) + ((g 3) 0))))), (0, .ref v), (2, .ref (ad 3))]) dX1_allOnLine_22 rfl (by decide) rfl ?_
    refine g_aload_n 2 dX1_allOnLine_23 rfl rfl ?_
    refine g_get (v := .ref (ad 2)) (C := RX3) (T := TX3) (N := 14) 5 1 (fun _ h => List.mem_cons_of_mem _ (List.mem_append_left _ (List.mem_append_right _ h))) (List.mem_of_getElem? (i := 2) rfl) rfl rfl (by decide) rfl rfl dX1_allOnLine_24 ?_
    refine g_astore_n (lv1 := [(2, .ref (ad 2)), (1, .int (iI (w + ((bI ((g 3) 1 ≠ 0 ∨ (g 3) 2 ≠ 0)) + ((g 3) 0))))), (0, .ref v)]) dX1_allOnLine_27 rfl (by decide) rfl ?_
    refine g_goto (tgt := 7) dX1_allOnLine_28 rfl ?_
    refine g_lv (lv1 := [(0, .ref v), (1, .int (iI (w + ((bI ((g 3) 1 ≠ 0 ∨ (g 3) 2 ≠ 0)) + ((g 3) 0))))), (2, .ref (ad 2))]) [2, 1, 0] rfl ?_
    exact K7_2 (w + ((bI ((g 3) 1 ≠ 0 ∨ (g 3) 2 ≠ 0)) + ((g 3) 0))) (by have e9 : sI (oF g) 4 = sI (oF g) 3 + (bI (g 3 1 ≠ 0 ∨ g 3 2 ≠ 0) + g 3 0) := sI_s (oF g) (i := 3) (by omega); omega)
  have K7_4 : ∀ (w : Int) (hw : w + sI (oF g) 5 = sI (oF g) M), G X ({ frames := 2, cells := 0, slots := 0, locals := 41 } : Room) cX1_allOnLine 3 RX1 wsX1_allOnLine E [] 0 0 [(v, oo 1 [.ref ma, .int (iI M), .ref fo, .ref la, .int (iI ti), .int (iI so), .int (iI ta), .int (iI go), .int (iI sl)]), (ma, aM E 6 mq), (ad 0, oo 3 (fMa 0 .null (sd 0) (g 0))), (ad 1, oo 3 (fMa 1 (.ref (ad 0)) (sd 1) (g 1))), (ad 2, oo 3 (fMa 2 (.ref (ad 1)) (sd 2) (g 2))), (ad 3, oo 3 (fMa 3 (.ref (ad 2)) (sd 3) (g 3))), (ad 4, oo 3 (fMa 4 (.ref (ad 3)) (sd 4) (g 4))), (ad 5, oo 3 (fMa 5 (.ref (ad 4)) (sd 5) (g 5)))] [(0, .ref v), (1, .int (iI w)), (2, .ref (ad 4))] 7 [] := by
    intro w hw
    refine g_aload_n 2 dX1_allOnLine_7 rfl rfl ?_
    refine g_ifnull dX1_allOnLine_8 ?_
    refine g_iload_n 1 dX1_allOnLine_11 rfl rfl ?_
    refine g_aload_n 2 dX1_allOnLine_12 rfl rfl ?_
    refine g_callV_i (n := 0) (As := []) (wr := [(v, oo 1 [.ref ma, .int (iI M), .ref fo, .ref la, .int (iI ti), .int (iI so), .int (iI ta), .int (iI go), .int (iI sl)]), (ma, aM E 6 mq), (ad 0, oo 3 (fMa 0 .null (sd 0) (g 0))), (ad 1, oo 3 (fMa 1 (.ref (ad 0)) (sd 1) (g 1))), (ad 2, oo 3 (fMa 2 (.ref (ad 1)) (sd 2) (g 2))), (ad 3, oo 3 (fMa 3 (.ref (ad 2)) (sd 3) (g 3))), (ad 5, oo 3 (fMa 5 (.ref (ad 4)) (sd 5) (g 5)))]) (C := RX3) [.int (iI w)] (c_X3_unitsInside E (ad 4) (sd 4) 4 (.ref (ad 3)) (g 4) (by exact hgk 4 (by omega) (by omega))) [6] [0, 1, 2, 3, 4, 5, 7] 0 rfl rfl gX1_allOnLine_X3_unitsInside rfl ⟨rfl, by decide +kernel⟩ ⟨by decide, by decide⟩ rfl rfl rfl rfl rfl (by decide) rfl (by decide) (by decide) (fun _ h => absurd h List.not_mem_nil) dX1_allOnLine_13 rfl (Nat.le_of_ble_eq_true rfl) ⟨by decide, by decide⟩ (fun r u p_5 => ?_)
    obtain ⟨rfl, rfl⟩ := p_5
    refine g_perm (ws1 := [(v, oo 1 [.ref ma, .int (iI M), .ref fo, .ref la, .int (iI ti), .int (iI so), .int (iI ta), .int (iI go), .int (iI sl)]), (ma, aM E 6 mq), (ad 0, oo 3 (fMa 0 .null (sd 0) (g 0))), (ad 1, oo 3 (fMa 1 (.ref (ad 0)) (sd 1) (g 1))), (ad 2, oo 3 (fMa 2 (.ref (ad 1)) (sd 2) (g 2))), (ad 3, oo 3 (fMa 3 (.ref (ad 2)) (sd 3) (g 3))), (ad 4, oo 3 (fMa 4 (.ref (ad 3)) (sd 4) (g 4))), (ad 5, oo 3 (fMa 5 (.ref (ad 4)) (sd 5) (g 5)))]) [0, 1, 2, 3, 4, 5, 7, 6] rfl (by decide) rfl ?_
    refine g_aload_n 2 dX1_allOnLine_16 rfl rfl ?_
    refine g_get (v := .int (iI ((g 4) 0))) (C := RX3) (T := TX3) (N := 14) 6 3 (fun _ h => List.mem_cons_of_mem _ (List.mem_append_left _ (List.mem_append_right _ h))) (List.mem_of_getElem? (i := 1) rfl) rfl rfl (by decide) rfl rfl dX1_allOnLine_17 ?_
    refine g_iadd dX1_allOnLine_20 ?_
    refine g_iadd dX1_allOnLine_21 ?_
    refine g_istore_n (lv1 := [(1, .int (iI (w + ((bI ((g 4) 1 ≠ 0 ∨ (g 4) 2 ≠ 0)) + ((g 4) 0))))), (0, .ref v), (2, .ref (ad 4))]) dX1_allOnLine_22 rfl (by decide) rfl ?_
    refine g_aload_n 2 dX1_allOnLine_23 rfl rfl ?_
    refine g_get (v := .ref (ad 3)) (C := RX3) (T := TX3) (N := 14) 6 1 (fun _ h => List.mem_cons_of_mem _ (List.mem_append_left _ (List.mem_append_right _ h))) (List.mem_of_getElem? (i := 2) rfl) rfl rfl (by decide) rfl rfl dX1_allOnLine_24 ?_
    refine g_astore_n (lv1 := [(2, .ref (ad 3)), (1, .int (iI (w + ((bI ((g 4) 1 ≠ 0 ∨ (g 4) 2 ≠ 0)) + ((g 4) 0))))), (0, .ref v)]) dX1_allOnLine_27 rfl (by decide) rfl ?_
    refine g_goto (tgt := 7) dX1_allOnLine_28 rfl ?_
    refine g_lv (lv1 := [(0, .ref v), (1, .int (iI (w + ((bI ((g 4) 1 ≠ 0 ∨ (g 4) 2 ≠ 0)) + ((g 4) 0))))), (2, .ref (ad 3))]) [2, 1, 0] rfl ?_
    exact K7_3 (w + ((bI ((g 4) 1 ≠ 0 ∨ (g 4) 2 ≠ 0)) + ((g 4) 0))) (by have e9 : sI (oF g) 5 = sI (oF g) 4 + (bI (g 4 1 ≠ 0 ∨ g 4 2 ≠ 0) + g 4 0) := sI_s (oF g) (i := 4) (by omega); omega)
  have K7_5 : ∀ (w : Int) (hw : w + sI (oF g) 6 = sI (oF g) M), G X ({ frames := 2, cells := 0, slots := 0, locals := 41 } : Room) cX1_allOnLine 3 RX1 wsX1_allOnLine E [] 0 0 [(v, oo 1 [.ref ma, .int (iI M), .ref fo, .ref la, .int (iI ti), .int (iI so), .int (iI ta), .int (iI go), .int (iI sl)]), (ma, aM E 6 mq), (ad 0, oo 3 (fMa 0 .null (sd 0) (g 0))), (ad 1, oo 3 (fMa 1 (.ref (ad 0)) (sd 1) (g 1))), (ad 2, oo 3 (fMa 2 (.ref (ad 1)) (sd 2) (g 2))), (ad 3, oo 3 (fMa 3 (.ref (ad 2)) (sd 3) (g 3))), (ad 4, oo 3 (fMa 4 (.ref (ad 3)) (sd 4) (g 4))), (ad 5, oo 3 (fMa 5 (.ref (ad 4)) (sd 5) (g 5)))] [(0, .ref v), (1, .int (iI w)), (2, .ref (ad 5))] 7 [] := by
    intro w hw
    refine g_aload_n 2 dX1_allOnLine_7 rfl rfl ?_
    refine g_ifnull dX1_allOnLine_8 ?_
    refine g_iload_n 1 dX1_allOnLine_11 rfl rfl ?_
    refine g_aload_n 2 dX1_allOnLine_12 rfl rfl ?_
    refine g_callV_i (n := 0) (As := []) (wr := [(v, oo 1 [.ref ma, .int (iI M), .ref fo, .ref la, .int (iI ti), .int (iI so), .int (iI ta), .int (iI go), .int (iI sl)]), (ma, aM E 6 mq), (ad 0, oo 3 (fMa 0 .null (sd 0) (g 0))), (ad 1, oo 3 (fMa 1 (.ref (ad 0)) (sd 1) (g 1))), (ad 2, oo 3 (fMa 2 (.ref (ad 1)) (sd 2) (g 2))), (ad 3, oo 3 (fMa 3 (.ref (ad 2)) (sd 3) (g 3))), (ad 4, oo 3 (fMa 4 (.ref (ad 3)) (sd 4) (g 4)))]) (C := RX3) [.int (iI w)] (c_X3_unitsInside E (ad 5) (sd 5) 5 (.ref (ad 4)) (g 5) (by exact hgk 5 (by omega) (by omega))) [7] [0, 1, 2, 3, 4, 5, 6] 0 rfl rfl gX1_allOnLine_X3_unitsInside rfl ⟨rfl, by decide +kernel⟩ ⟨by decide, by decide⟩ rfl rfl rfl rfl rfl (by decide) rfl (by decide) (by decide) (fun _ h => absurd h List.not_mem_nil) dX1_allOnLine_13 rfl (Nat.le_of_ble_eq_true rfl) ⟨by decide, by decide⟩ (fun r u p_6 => ?_)
    obtain ⟨rfl, rfl⟩ := p_6
    refine g_aload_n 2 dX1_allOnLine_16 rfl rfl ?_
    refine g_get (v := .int (iI ((g 5) 0))) (C := RX3) (T := TX3) (N := 14) 7 3 (fun _ h => List.mem_cons_of_mem _ (List.mem_append_left _ (List.mem_append_right _ h))) (List.mem_of_getElem? (i := 1) rfl) rfl rfl (by decide) rfl rfl dX1_allOnLine_17 ?_
    refine g_iadd dX1_allOnLine_20 ?_
    refine g_iadd dX1_allOnLine_21 ?_
    refine g_istore_n (lv1 := [(1, .int (iI (w + ((bI ((g 5) 1 ≠ 0 ∨ (g 5) 2 ≠ 0)) + ((g 5) 0))))), (0, .ref v), (2, .ref (ad 5))]) dX1_allOnLine_22 rfl (by decide) rfl ?_
    refine g_aload_n 2 dX1_allOnLine_23 rfl rfl ?_
    refine g_get (v := .ref (ad 4)) (C := RX3) (T := TX3) (N := 14) 7 1 (fun _ h => List.mem_cons_of_mem _ (List.mem_append_left _ (List.mem_append_right _ h))) (List.mem_of_getElem? (i := 2) rfl) rfl rfl (by decide) rfl rfl dX1_allOnLine_24 ?_
    refine g_astore_n (lv1 := [(2, .ref (ad 4)), (1, .int (iI (w + ((bI ((g 5) 1 ≠ 0 ∨ (g 5) 2 ≠ 0)) + ((g 5) 0))))), (0, .ref v)]) dX1_allOnLine_27 rfl (by decide) rfl ?_
    refine g_goto (tgt := 7) dX1_allOnLine_28 rfl ?_
    refine g_lv (lv1 := [(0, .ref v), (1, .int (iI (w + ((bI ((g 5) 1 ≠ 0 ∨ (g 5) 2 ≠ 0)) + ((g 5) 0))))), (2, .ref (ad 4))]) [2, 1, 0] rfl ?_
    exact K7_4 (w + ((bI ((g 5) 1 ≠ 0 ∨ (g 5) 2 ≠ 0)) + ((g 5) 0))) (by have e9 : sI (oF g) 6 = sI (oF g) 5 + (bI (g 5 1 ≠ 0 ∨ g 5 2 ≠ 0) + g 5 0) := sI_s (oF g) (i := 5) (by omega); omega)
  refine g_iconst dX1_allOnLine_0 ?_
  refine g_istore_n (lv1 := [(1, .int (iI 0)), (0, .ref v)]) dX1_allOnLine_1 rfl (by decide) rfl ?_
  refine g_aload_n 1 dX1_allOnLine_2 rfl rfl ?_
  refine g_callV_q (n := 0) (As := []) (wr := [(ad 0, oo 3 (fMa 0 .null (sd 0) (g 0))), (ad 1, oo 3 (fMa 1 (.ref (ad 0)) (sd 1) (g 1))), (ad 2, oo 3 (fMa 2 (.ref (ad 1)) (sd 2) (g 2))), (ad 3, oo 3 (fMa 3 (.ref (ad 2)) (sd 3) (g 3))), (ad 4, oo 3 (fMa 4 (.ref (ad 3)) (sd 4) (g 4))), (ad 5, oo 3 (fMa 5 (.ref (ad 4)) (sd 5) (g 5)))]) (C := RX1) [] (c_X1_last E v ma fo la M ti so ta go sl mq ad (by omega) (by omega) (by omega) (by omega) (by exact hmq)) [0, 1] [2, 3, 4, 5, 6, 7] 0 rfl rfl gX1_allOnLine_X1_last rfl ⟨rfl, by decide +kernel⟩ ⟨by decide, by decide⟩ rfl rfl rfl rfl rfl (by decide) rfl (by decide) (by decide) (fun _ h => absurd h List.not_mem_nil) dX1_allOnLine_3 rfl (Nat.le_of_ble_eq_true rfl) ⟨by decide, by decide⟩ (fun r u p_7 => ?_)
  obtain ⟨rfl, rfl⟩ := p_7
  refine g_perm (ws1 := [(v, oo 1 [.ref ma, .int (iI M), .ref fo, .ref la, .int (iI ti), .int (iI so), .int (iI ta), .int (iI go), .int (iI sl)]), (ma, aM E 6 mq), (ad 0, oo 3 (fMa 0 .null (sd 0) (g 0))), (ad 1, oo 3 (fMa 1 (.ref (ad 0)) (sd 1) (g 1))), (ad 2, oo 3 (fMa 2 (.ref (ad 1)) (sd 2) (g 2))), (ad 3, oo 3 (fMa 3 (.ref (ad 2)) (sd 3) (g 3))), (ad 4, oo 3 (fMa 4 (.ref (ad 3)) (sd 4) (g 4))), (ad 5, oo 3 (fMa 5 (.ref (ad 4)) (sd 5) (g 5)))]) [6, 7, 0, 1, 2, 3, 4, 5] rfl (by decide) rfl ?_
  rcases (show M = 2 ∨ M = 3 ∨ M = 4 ∨ M = 5 ∨ M = 6 by omega) with hMk | hMk | hMk | hMk | hMk
  · refine g_as (st1 := [.ref (ad 1)]) ?_ rfl rfl (by rw [hMk]; rfl)
    refine g_astore_n (lv1 := [(2, .ref (ad 1)), (1, .int (iI 0)), (0, .ref v)]) dX1_allOnLine_6 rfl (by decide) rfl ?_
    refine g_lv (lv1 := [(0, .ref v), (1, .int (iI 0)), (2, .ref (ad 1))]) [2, 1, 0] rfl ?_
    exact K7_1 0 (by rw [show M = 2 by omega]; omega)
  · refine g_as (st1 := [.ref (ad 2)]) ?_ rfl rfl (by rw [hMk]; rfl)
    refine g_astore_n (lv1 := [(2, .ref (ad 2)), (1, .int (iI 0)), (0, .ref v)]) dX1_allOnLine_6 rfl (by decide) rfl ?_
    refine g_lv (lv1 := [(0, .ref v), (1, .int (iI 0)), (2, .ref (ad 2))]) [2, 1, 0] rfl ?_
    exact K7_2 0 (by rw [show M = 3 by omega]; omega)
  · refine g_as (st1 := [.ref (ad 3)]) ?_ rfl rfl (by rw [hMk]; rfl)
    refine g_astore_n (lv1 := [(2, .ref (ad 3)), (1, .int (iI 0)), (0, .ref v)]) dX1_allOnLine_6 rfl (by decide) rfl ?_
    refine g_lv (lv1 := [(0, .ref v), (1, .int (iI 0)), (2, .ref (ad 3))]) [2, 1, 0] rfl ?_
    exact K7_3 0 (by rw [show M = 4 by omega]; omega)
  · refine g_as (st1 := [.ref (ad 4)]) ?_ rfl rfl (by rw [hMk]; rfl)
    refine g_astore_n (lv1 := [(2, .ref (ad 4)), (1, .int (iI 0)), (0, .ref v)]) dX1_allOnLine_6 rfl (by decide) rfl ?_
    refine g_lv (lv1 := [(0, .ref v), (1, .int (iI 0)), (2, .ref (ad 4))]) [2, 1, 0] rfl ?_
    exact K7_4 0 (by rw [show M = 5 by omega]; omega)
  · refine g_as (st1 := [.ref (ad 5)]) ?_ rfl rfl (by rw [hMk]; rfl)
    refine g_astore_n (lv1 := [(2, .ref (ad 5)), (1, .int (iI 0)), (0, .ref v)]) dX1_allOnLine_6 rfl (by decide) rfl ?_
    refine g_lv (lv1 := [(0, .ref v), (1, .int (iI 0)), (2, .ref (ad 5))]) [2, 1, 0] rfl ?_
    exact K7_5 0 (by rw [show M = 6 by omega]; omega)

set_option maxHeartbeats 4000000 in
set_option maxRecDepth 100000 in
theorem c_X6_book (E : Ev) (x0 : Nat) (h0 : Nat) (a3 : Nat) (a4 : Nat) (a5 : Nat) (lo : Int) (v : Nat) (ma : Nat) (fo : Nat) (la : Nat) (M : Int) (ti : Int) (so : Int) (ta : Int) (go : Int) (sl : Int) (mq : Int → Option Nat) (ad : Int → Nat) (sd : Int → Nat) (g : Int → Int → Int) (what : Int) (hM : 2 ≤ M ∧ M ≤ 6) (hti : 0 ≤ ti ∧ ti ≤ 10000) (hso : 0 ≤ so ∧ so ≤ 100000) (hgo : 0 ≤ go ∧ go ≤ 20000) (hmq : ∀ k, 0 ≤ k → k < 6 → mq k = some (ad k)) (hgk : ∀ j, 0 ≤ j → j < 6 → mOk (g j)) (h_what : -2147483648 ≤ what ∧ what ≤ 2147483647) : MI yX6_book wsX6_book ({ frames := 3, cells := 0, slots := 0, locals := 63 } : Room) E [] 0 0 [.ref x0, .int (iI what)] [(x0, oo 6 [.ref v, .ref h0, .ref a3, .ref a4, .ref a5, .int (iI lo)]), (v, oo 1 [.ref ma, .int (iI M), .ref fo, .ref la, .int (iI ti), .int (iI so), .int (iI ta), .int (iI go), .int (iI sl)]), (ma, aM E 6 mq), (ad 0, oo 3 (fMa 0 .null (sd 0) (g 0))), (ad 1, oo 3 (fMa 1 (.ref (ad 0)) (sd 1) (g 1))), (ad 2, oo 3 (fMa 2 (.ref (ad 1)) (sd 2) (g 2))), (ad 3, oo 3 (fMa 3 (.ref (ad 2)) (sd 3) (g 3))), (ad 4, oo 3 (fMa 4 (.ref (ad 3)) (sd 4) (g 4))), (ad 5, oo 3 (fMa 5 (.ref (ad 4)) (sd 5) (g 5)))] (fun r u => r = iI (f_book M ti so ta go sl g what) ∧ u = [(x0, oo 6 [.ref v, .ref h0, .ref a3, .ref a4, .ref a5, .int (iI lo)]), (v, oo 1 [.ref ma, .int (iI M), .ref fo, .ref la, .int (iI ti), .int (iI so), .int (iI ta), .int (iI go), .int (iI sl)]), (ma, aM E 6 mq), (ad 0, oo 3 (fMa 0 .null (sd 0) (g 0))), (ad 1, oo 3 (fMa 1 (.ref (ad 0)) (sd 1) (g 1))), (ad 2, oo 3 (fMa 2 (.ref (ad 1)) (sd 2) (g 2))), (ad 3, oo 3 (fMa 3 (.ref (ad 2)) (sd 3) (g 3))), (ad 4, oo 3 (fMa 4 (.ref (ad 3)) (sd 4) (g 4))), (ad 5, oo 3 (fMa 5 (.ref (ad 4)) (sd 5) (g 5)))]) := by
  refine MI.of (cc := cX6_book) (maxL := 2) (own := RX6) (by decide) rfl rfl rfl (Nat.le_of_ble_eq_true rfl) [(0, .ref x0), (1, .int (iI what))] rfl ?_
  intro X hin2 hRet
  refine g_iload_n 1 dX6_book_0 rfl rfl ?_
  rcases (show what = 0 ∨ what = 1 ∨ what = 2 ∨ what = 3 ∨ what = 4 ∨ what = 5 ∨ what = 6 ∨ what = 7 ∨ (what < 0 ∨ 7 < what) by omega) with c_1 | c_1 | c_1 | c_1 | c_1 | c_1 | c_1 | c_1 | c_1
  · refine g_tableIn (tgt := 48) (off := 47) (by unfold R32; omega) dX6_book_1 (by omega) (by rw [c_1]; rfl) rfl ?_
    refine g_aload_n 0 dX6_book_48 rfl rfl ?_
    refine g_get (C := RX6) (T := TX6) (N := 6) 0 0 (fun _ h => List.mem_cons_of_mem _ (List.mem_append_left _ (List.mem_append_left _ (List.mem_append_right _ h)))) (List.mem_of_getElem? (i := 1) rfl) rfl rfl (by decide) rfl rfl dX6_book_49 ?_
    refine g_get (C := RX1) (T := TX1) (N := 9) 1 4 (fun _ h => List.mem_cons_of_mem _ (List.mem_append_left _ (List.mem_append_right _ h))) (List.mem_of_getElem? (i := 2) rfl) rfl rfl (by decide) rfl rfl dX6_book_52 ?_
    exact g_iret hRet dX6_book_55 rfl ⟨(congrArg iI (by unfold f_book; (repeat' split) <;> first | rfl | (exfalso; omega))), rfl⟩
  · refine g_tableIn (tgt := 56) (off := 55) (by unfold R32; omega) dX6_book_1 (by omega) (by rw [c_1]; rfl) rfl ?_
    refine g_aload_n 0 dX6_book_56 rfl rfl ?_
    refine g_get (C := RX6) (T := TX6) (N := 6) 0 0 (fun _ h => List.mem_cons_of_mem _ (List.mem_append_left _ (List.mem_append_left _ (List.mem_append_right _ h)))) (List.mem_of_getElem? (i := 1) rfl) rfl rfl (by decide) rfl rfl dX6_book_57 ?_
    refine g_get (C := RX1) (T := TX1) (N := 9) 1 5 (fun _ h => List.mem_cons_of_mem _ (List.mem_append_left _ (List.mem_append_right _ h))) (List.mem_of_getElem? (i := 3) rfl) rfl rfl (by decide) rfl rfl dX6_book_60 ?_
    exact g_iret hRet dX6_book_63 rfl ⟨(congrArg iI (by unfold f_book; (repeat' split) <;> first | rfl | (exfalso; omega))), rfl⟩
  · refine g_tableIn (tgt := 64) (off := 63) (by unfold R32; omega) dX6_book_1 (by omega) (by rw [c_1]; rfl) rfl ?_
    refine g_aload_n 0 dX6_book_64 rfl rfl ?_
    refine g_get (C := RX6) (T := TX6) (N := 6) 0 0 (fun _ h => List.mem_cons_of_mem _ (List.mem_append_left _ (List.mem_append_left _ (List.mem_append_right _ h)))) (List.mem_of_getElem? (i := 1) rfl) rfl rfl (by decide) rfl rfl dX6_book_65 ?_
    refine g_get (C := RX1) (T := TX1) (N := 9) 1 6 (fun _ h => List.mem_cons_of_mem _ (List.mem_append_left _ (List.mem_append_right _ h))) (List.mem_of_getElem? (i := 4) rfl) rfl rfl (by decide) rfl rfl dX6_book_68 ?_
    exact g_iret hRet dX6_book_71 rfl ⟨(congrArg iI (by unfold f_book; (repeat' split) <;> first | rfl | (exfalso; omega))), rfl⟩
  · refine g_tableIn (tgt := 72) (off := 71) (by unfold R32; omega) dX6_book_1 (by omega) (by rw [c_1]; rfl) rfl ?_
    refine g_aload_n 0 dX6_book_72 rfl rfl ?_
    refine g_get (C := RX6) (T := TX6) (N := 6) 0 0 (fun _ h => List.mem_cons_of_mem _ (List.mem_append_left _ (List.mem_append_left _ (List.mem_append_right _ h)))) (List.mem_of_getElem? (i := 1) rfl) rfl rfl (by decide) rfl rfl dX6_book_73 ?_
    refine g_get (C := RX1) (T := TX1) (N := 9) 1 7 (fun _ h => List.mem_cons_of_mem _ (List.mem_append_left _ (List.mem_append_right _ h))) (List.mem_of_getElem? (i := 5) rfl) rfl rfl (by decide) rfl rfl dX6_book_76 ?_
    exact g_iret hRet dX6_book_79 rfl ⟨(congrArg iI (by unfold f_book; (repeat' split) <;> first | rfl | (exfalso; omega))), rfl⟩
  · refine g_tableIn (tgt := 80) (off := 79) (by unfold R32; omega) dX6_book_1 (by omega) (by rw [c_1]; rfl) rfl ?_
    refine g_aload_n 0 dX6_book_80 rfl rfl ?_
    refine g_get (C := RX6) (T := TX6) (N := 6) 0 0 (fun _ h => List.mem_cons_of_mem _ (List.mem_append_left _ (List.mem_append_left _ (List.mem_append_right _ h)))) (List.mem_of_getElem? (i := 1) rfl) rfl rfl (by decide) rfl rfl dX6_book_81 ?_
    refine g_callV_i (n := 0) (As := []) (wr := [(x0, oo 6 [.ref v, .ref h0, .ref a3, .ref a4, .ref a5, .int (iI lo)])]) (C := RX1) [] (c_X1_allRejected E v ma fo la M ti so ta go sl mq ad sd g (by omega) (by omega) (by omega) (by omega) (by exact hmq) (by exact hgk)) [1, 2, 3, 4, 5, 6, 7, 8] [0] 0 rfl rfl gX6_book_X1_allRejected rfl ⟨rfl, by decide +kernel⟩ ⟨by decide, by decide⟩ rfl rfl rfl rfl rfl (by decide) rfl (by decide) (by decide) (fun _ h => absurd h List.not_mem_nil) dX6_book_84 rfl (Nat.le_of_ble_eq_true rfl) ⟨by decide, by decide⟩ (fun r u p_2 => ?_)
    obtain ⟨rfl, rfl⟩ := p_2
    exact g_iret hRet dX6_book_87 rfl ⟨(congrArg iI (by unfold f_book; (repeat' split) <;> first | rfl | (exfalso; omega))), rfl⟩
  · refine g_tableIn (tgt := 88) (off := 87) (by unfold R32; omega) dX6_book_1 (by omega) (by rw [c_1]; rfl) rfl ?_
    refine g_aload_n 0 dX6_book_88 rfl rfl ?_
    refine g_get (C := RX6) (T := TX6) (N := 6) 0 0 (fun _ h => List.mem_cons_of_mem _ (List.mem_append_left _ (List.mem_append_left _ (List.mem_append_right _ h)))) (List.mem_of_getElem? (i := 1) rfl) rfl rfl (by decide) rfl rfl dX6_book_89 ?_
    refine g_callV_i (n := 0) (As := []) (wr := [(x0, oo 6 [.ref v, .ref h0, .ref a3, .ref a4, .ref a5, .int (iI lo)])]) (C := RX1) [] (c_X1_allSampled E v ma fo la M ti so ta go sl mq ad sd g (by omega) (by omega) (by omega) (by omega) (by exact hmq) (by exact hgk)) [1, 2, 3, 4, 5, 6, 7, 8] [0] 0 rfl rfl gX6_book_X1_allSampled rfl ⟨rfl, by decide +kernel⟩ ⟨by decide, by decide⟩ rfl rfl rfl rfl rfl (by decide) rfl (by decide) (by decide) (fun _ h => absurd h List.not_mem_nil) dX6_book_92 rfl (Nat.le_of_ble_eq_true rfl) ⟨by decide, by decide⟩ (fun r u p_3 => ?_)
    obtain ⟨rfl, rfl⟩ := p_3
    exact g_iret hRet dX6_book_95 rfl ⟨(congrArg iI (by unfold f_book; (repeat' split) <;> first | rfl | (exfalso; omega))), rfl⟩
  · refine g_tableIn (tgt := 96) (off := 95) (by unfold R32; omega) dX6_book_1 (by omega) (by rw [c_1]; rfl) rfl ?_
    refine g_aload_n 0 dX6_book_96 rfl rfl ?_
    refine g_get (C := RX6) (T := TX6) (N := 6) 0 0 (fun _ h => List.mem_cons_of_mem _ (List.mem_append_left _ (List.mem_append_left _ (List.mem_append_right _ h)))) (List.mem_of_getElem? (i := 1) rfl) rfl rfl (by decide) rfl rfl dX6_book_97 ?_
    refine g_callV_i (n := 0) (As := []) (wr := [(x0, oo 6 [.ref v, .ref h0, .ref a3, .ref a4, .ref a5, .int (iI lo)])]) (C := RX1) [] (c_X1_allOnLine E v ma fo la M ti so ta go sl mq ad sd g (by omega) (by omega) (by omega) (by omega) (by exact hmq) (by exact hgk)) [1, 2, 3, 4, 5, 6, 7, 8] [0] 0 rfl rfl gX6_book_X1_allOnLine rfl ⟨rfl, by decide +kernel⟩ ⟨by decide, by decide⟩ rfl rfl rfl rfl rfl (by decide) rfl (by decide) (by decide) (fun _ h => absurd h List.not_mem_nil) dX6_book_100 rfl (Nat.le_of_ble_eq_true rfl) ⟨by decide, by decide⟩ (fun r u p_4 => ?_)
    obtain ⟨rfl, rfl⟩ := p_4
    exact g_iret hRet dX6_book_103 rfl ⟨(congrArg iI (by unfold f_book; (repeat' split) <;> first | rfl | (exfalso; omega))), rfl⟩
  · refine g_tableIn (tgt := 104) (off := 103) (by unfold R32; omega) dX6_book_1 (by omega) (by rw [c_1]; rfl) rfl ?_
    refine g_aload_n 0 dX6_book_104 rfl rfl ?_
    refine g_get (C := RX6) (T := TX6) (N := 6) 0 0 (fun _ h => List.mem_cons_of_mem _ (List.mem_append_left _ (List.mem_append_left _ (List.mem_append_right _ h)))) (List.mem_of_getElem? (i := 1) rfl) rfl rfl (by decide) rfl rfl dX6_book_105 ?_
    refine g_get (C := RX1) (T := TX1) (N := 9) 1 8 (fun _ h => List.mem_cons_of_mem _ (List.mem_append_left _ (List.mem_append_right _ h))) (List.mem_of_getElem? (i := 6) rfl) rfl rfl (by decide) rfl rfl dX6_book_108 ?_
    exact g_iret hRet dX6_book_111 rfl ⟨(congrArg iI (by unfold f_book; (repeat' split) <;> first | rfl | (exfalso; omega))), rfl⟩
  · refine g_tableOut (tgt := 112) (by unfold R32; omega) dX6_book_1 c_1 rfl ?_
    refine g_iconst dX6_book_112 ?_
    exact g_iret hRet dX6_book_113 rfl ⟨(congrArg iI (by unfold f_book; (repeat' split) <;> first | rfl | (exfalso; omega))), rfl⟩

set_option maxHeartbeats 4000000 in
set_option maxRecDepth 100000 in
theorem c_X3_mayBeSet (E : Ev) (h : Nat) (sa : Nat) (n : Int) (ah : Value) (c : Int → Int) (what : Int) (w : Int) (t3 : Nat) (t4 : Nat) (h_what : -2147483648 ≤ what ∧ what ≤ 2147483647) (h_w : -2147483648 ≤ w ∧ w ≤ 2147483647) : MI yX3_mayBeSet wsX3_mayBeSet ({ frames := 1, cells := 0, slots := 0, locals := 22 } : Room) E [(t3, "CaseLine$Machine", "LEAST", 4, mLo), (t4, "CaseLine$Machine", "MOST", 4, mHi)] 0 0 [.ref h, .int (iI what), .int (iI w)] [(h, oo 3 (fMa n ah sa c))] (fun r u => r = iI (bI ((0 ≤ what ∧ what ≤ 3) ∧ mLo what ≤ w ∧ w ≤ mHi what)) ∧ u = [(h, oo 3 (fMa n ah sa c))]) := by
  refine MI.of (cc := cX3_mayBeSet) (maxL := 3) (own := RX3) (by decide) rfl rfl rfl (Nat.le_of_ble_eq_true rfl) [(0, .ref h), (1, .int (iI what)), (2, .int (iI w))] rfl ?_
  intro X hin2 hRet
  refine g_iload_n 1 dX3_mayBeSet_0 rfl rfl ?_
  refine g_iconst dX3_mayBeSet_1 ?_
  refine g_iconst dX3_mayBeSet_2 ?_
  refine g_callN_i (n := 3) (As := [.int (iI what), .int (iI 0), .int (iI 3)]) (wr := [(h, oo 3 (fMa n ah sa c))]) [] (c_X6_within E what 0 3 (by omega) (by omega) (by omega)) [] [0] gX3_mayBeSet_X6_within_n69 (fun _ h => h.2.2.1) (List.mem_of_getElem? (i := 4) rfl) (List.mem_of_getElem? (i := 3) rfl) rfl (by decide +kernel) ⟨by decide, by decide⟩ rfl rfl rfl rfl rfl (by decide) rfl (by decide) (by decide) (fun _ h => absurd h List.not_mem_nil) dX3_mayBeSet_3 rfl (Nat.le_of_ble_eq_true rfl) ⟨by decide, by decide⟩ (fun r u p_1 => ?_)
  obtain ⟨rfl, rfl⟩ := p_1
  refine g_perm (ws1 := [(h, oo 3 (fMa n ah sa c))]) [0] rfl (by decide) rfl ?_
  refine g_if_eq_b (tgt := 30) dX3_mayBeSet_6 rfl (fun c_2 => ?_) (fun c_2 => ?_)
  · refine g_iload_n 2 dX3_mayBeSet_9 rfl rfl ?_
    have q1 := mLo_b what
    have q2 := mHi_b what
    refine g_gets (List.mem_of_getElem? (i := 0) rfl) (List.mem_of_getElem? (i := 1) rfl) dX3_mayBeSet_10 ?_
    refine g_iload_n 1 dX3_mayBeSet_13 rfl rfl ?_
    refine g_zs (List.mem_of_getElem? (i := 0) rfl) dX3_mayBeSet_14 (by decide) (by omega) (by omega) ?_
    refine g_gets (List.mem_of_getElem? (i := 1) rfl) (List.mem_of_getElem? (i := 2) rfl) dX3_mayBeSet_15 ?_
    refine g_iload_n 1 dX3_mayBeSet_18 rfl rfl ?_
    refine g_zs (List.mem_of_getElem? (i := 1) rfl) dX3_mayBeSet_19 (by decide) (by omega) (by omega) ?_
    refine g_callN_i (n := 3) (As := [.int (iI w), .int (iI (mLo what)), .int (iI (mHi what))]) (wr := [(h, oo 3 (fMa n ah sa c))]) [] (c_X6_within E w (mLo what) (mHi what) (by omega) (by omega) (by omega)) [] [0] gX3_mayBeSet_X6_within_n69 (fun _ h => h.2.2.1) (List.mem_of_getElem? (i := 4) rfl) (List.mem_of_getElem? (i := 3) rfl) rfl (by decide +kernel) ⟨by decide, by decide⟩ rfl rfl rfl rfl rfl (by decide) rfl (by decide) (by decide) (fun _ h => absurd h List.not_mem_nil) dX3_mayBeSet_20 rfl (Nat.le_of_ble_eq_true rfl) ⟨by decide, by decide⟩ (fun r u p_3 => ?_)
    obtain ⟨rfl, rfl⟩ := p_3
    refine g_perm (ws1 := [(h, oo 3 (fMa n ah sa c))]) [0] rfl (by decide) rfl ?_
    refine g_if_eq_b (tgt := 30) dX3_mayBeSet_23 rfl (fun c_4 => ?_) (fun c_4 => ?_)
    · refine g_iconst dX3_mayBeSet_26 ?_
      refine g_goto (tgt := 31) dX3_mayBeSet_27 rfl ?_
      exact g_iret hRet dX3_mayBeSet_31 rfl ⟨(bI_t (by omega)), rfl⟩
    · refine g_iconst dX3_mayBeSet_30 ?_
      exact g_iret hRet dX3_mayBeSet_31 rfl ⟨(bI_f (by omega)), rfl⟩
  · refine g_iconst dX3_mayBeSet_30 ?_
    exact g_iret hRet dX3_mayBeSet_31 rfl ⟨(bI_f (by omega)), rfl⟩

set_option maxHeartbeats 4000000 in
set_option maxRecDepth 100000 in
theorem c_X3_put (E : Ev) (h : Nat) (sa : Nat) (n : Int) (ah : Value) (c : Int → Int) (s : Int → Int) (what : Int) (w : Int) (t3 : Nat) (t4 : Nat) (h_what : -2147483648 ≤ what ∧ what ≤ 2147483647) (h_w : -2147483648 ≤ w ∧ w ≤ 2147483647) (hv : (0 ≤ what ∧ what ≤ 3) ∧ mLo what ≤ w ∧ w ≤ mHi what) : MI yX3_put wsX3_put ({ frames := 2, cells := 0, slots := 0, locals := 44 } : Room) E [(t3, "CaseLine$Machine", "LEAST", 4, mLo), (t4, "CaseLine$Machine", "MOST", 4, mHi)] 0 0 [.ref h, .int (iI what), .int (iI w)] [(h, oo 3 (fMa n ah sa c)), (sa, aI E 4 s)] (fun r u => r = iI (s what) ∧ u = [(h, oo 3 (fMa n ah sa c)), (sa, aI E 4 (up s what w))]) := by
  refine MI.of (cc := cX3_put) (maxL := 4) (own := RX3) (by decide) rfl rfl rfl (Nat.le_of_ble_eq_true rfl) [(0, .ref h), (1, .int (iI what)), (2, .int (iI w))] rfl ?_
  intro X hin2 hRet
  refine g_aload_n 0 dX3_put_0 rfl rfl ?_
  refine g_iload_n 1 dX3_put_1 rfl rfl ?_
  refine g_iload_n 2 dX3_put_2 rfl rfl ?_
  refine g_callV_i (n := 2) (As := [.int (iI what), .int (iI w)]) (wr := [(sa, aI E 4 s)]) (C := RX3) [] (c_X3_mayBeSet E h sa n ah c what w t3 t4 (by omega) (by omega)) [0] [1] 0 rfl rfl gX3_put_X3_mayBeSet rfl ⟨rfl, by decide +kernel⟩ ⟨by decide, by decide⟩ rfl rfl rfl rfl rfl (by decide) rfl (by decide) (by decide) (fun _ h => h) dX3_put_3 rfl (Nat.le_of_ble_eq_true rfl) ⟨by decide, by decide⟩ (fun r u p_1 => ?_)
  obtain ⟨rfl, rfl⟩ := p_1
  refine g_perm (ws1 := [(h, oo 3 (fMa n ah sa c)), (sa, aI E 4 s)]) [1, 0] rfl (by decide) rfl ?_
  refine g_if_ne_b (tgt := 11) dX3_put_6 rfl (fun c_2 => ?_) (fun c_2 => ?_)
  · refine g_aload_n 0 dX3_put_11 rfl rfl ?_
    refine g_get (v := .ref sa) (C := RX3) (T := TX3) (N := 14) 0 2 (fun _ h => List.mem_cons_of_mem _ (List.mem_append_right _ h)) (List.mem_of_getElem? (i := 1) rfl) rfl rfl (by decide) rfl rfl dX3_put_12 ?_
    refine g_iload_n 1 dX3_put_15 rfl rfl ?_
    refine g_iald 1 dX3_put_16 rfl (by decide) (by omega) (by omega) ?_
    refine g_istore_n (lv1 := [(3, .int (iI (s what))), (0, .ref h), (1, .int (iI what)), (2, .int (iI w))]) dX3_put_17 rfl (by decide) rfl ?_
    refine g_aload_n 1 dX3_put_18 rfl rfl ?_
    refine g_get (v := .ref sa) (C := RX3) (T := TX3) (N := 14) 0 2 (fun _ h => List.mem_cons_of_mem _ (List.mem_append_right _ h)) (List.mem_of_getElem? (i := 1) rfl) rfl rfl (by decide) rfl rfl dX3_put_19 ?_
    refine g_iload_n 2 dX3_put_22 rfl rfl ?_
    refine g_iload_n 3 dX3_put_23 rfl rfl ?_
    refine g_iast (ws1 := [(h, oo 3 (fMa n ah sa c)), (sa, aI E 4 (up s what w))]) 1 dX3_put_24 rfl rfl (by decide) (by omega) (by omega) ?_
    refine g_iload_n 0 dX3_put_25 rfl rfl ?_
    exact g_iret hRet dX3_put_26 rfl ⟨rfl, rfl⟩
  · exact absurd hv (by assumption)

set_option maxHeartbeats 4000000 in
set_option maxRecDepth 100000 in
theorem c_X6_set (E : Ev) (x0 : Nat) (h0 : Nat) (a3 : Nat) (a4 : Nat) (a5 : Nat) (lo : Int) (v : Nat) (ma : Nat) (fo : Nat) (la : Nat) (M : Int) (ti : Int) (so : Int) (ta : Int) (go : Int) (sl : Int) (mq : Int → Option Nat) (ad : Int → Nat) (sd : Int → Nat) (g : Int → Int → Int) (S : Int → Int → Int) (i : Int) (what : Int) (w : Int) (t3 : Nat) (t4 : Nat) (hM : 2 ≤ M ∧ M ≤ 6) (hti : 0 ≤ ti ∧ ti ≤ 10000) (hso : 0 ≤ so ∧ so ≤ 100000) (hgo : 0 ≤ go ∧ go ≤ 20000) (hmq : ∀ k, 0 ≤ k → k < 6 → mq k = some (ad k)) (hgk : ∀ j, 0 ≤ j → j < 6 → mOk (g j)) (hS : ∀ j, 0 ≤ j → j < 6 → sOk (S j)) (h_i : -2147483648 ≤ i ∧ i ≤ 2147483647) (h_what : -2147483648 ≤ what ∧ what ≤ 2147483647) (h_w : -2147483648 ≤ w ∧ w ≤ 2147483647) : MI yX6_set wsX6_set ({ frames := 3, cells := 0, slots := 0, locals := 67 } : Room) E [(t3, "CaseLine$Machine", "LEAST", 4, mLo), (t4, "CaseLine$Machine", "MOST", 4, mHi)] 0 0 [.ref x0, .int (iI i), .int (iI what), .int (iI w)] [(x0, oo 6 [.ref v, .ref h0, .ref a3, .ref a4, .ref a5, .int (iI lo)]), (v, oo 1 [.ref ma, .int (iI M), .ref fo, .ref la, .int (iI ti), .int (iI so), .int (iI ta), .int (iI go), .int (iI sl)]), (ma, aM E 6 mq), (ad 0, oo 3 (fMa 0 .null (sd 0) (g 0))), (ad 1, oo 3 (fMa 1 (.ref (ad 0)) (sd 1) (g 1))), (ad 2, oo 3 (fMa 2 (.ref (ad 1)) (sd 2) (g 2))), (ad 3, oo 3 (fMa 3 (.ref (ad 2)) (sd 3) (g 3))), (ad 4, oo 3 (fMa 4 (.ref (ad 3)) (sd 4) (g 4))), (ad 5, oo 3 (fMa 5 (.ref (ad 4)) (sd 5) (g 5))), (sd 0, aI E 4 (S 0)), (sd 1, aI E 4 (S 1)), (sd 2, aI E 4 (S 2)), (sd 3, aI E 4 (S 3)), (sd 4, aI E 4 (S 4)), (sd 5, aI E 4 (S 5))] (fun r u => ∃ (x : Int), ∃ (S' : Int → Int → Int), sp_set M g S i what w x S' ∧ r = iI x ∧ u = [(x0, oo 6 [.ref v, .ref h0, .ref a3, .ref a4, .ref a5, .int (iI lo)]), (v, oo 1 [.ref ma, .int (iI M), .ref fo, .ref la, .int (iI ti), .int (iI so), .int (iI ta), .int (iI go), .int (iI sl)]), (ma, aM E 6 mq), (ad 0, oo 3 (fMa 0 .null (sd 0) (g 0))), (ad 1, oo 3 (fMa 1 (.ref (ad 0)) (sd 1) (g 1))), (ad 2, oo 3 (fMa 2 (.ref (ad 1)) (sd 2) (g 2))), (ad 3, oo 3 (fMa 3 (.ref (ad 2)) (sd 3) (g 3))), (ad 4, oo 3 (fMa 4 (.ref (ad 3)) (sd 4) (g 4))), (ad 5, oo 3 (fMa 5 (.ref (ad 4)) (sd 5) (g 5))), (sd 0, aI E 4 (S' 0)), (sd 1, aI E 4 (S' 1)), (sd 2, aI E 4 (S' 2)), (sd 3, aI E 4 (S' 3)), (sd 4, aI E 4 (S' 4)), (sd 5, aI E 4 (S' 5))]) := by
  refine MI.of (cc := cX6_set) (maxL := 5) (own := RX6) (by decide) rfl rfl rfl (Nat.le_of_ble_eq_true rfl) [(0, .ref x0), (1, .int (iI i)), (2, .int (iI what)), (3, .int (iI w))] rfl ?_
  intro X hin2 hRet
  refine g_aload_n 0 dX6_set_0 rfl rfl ?_
  refine g_get (C := RX6) (T := TX6) (N := 6) 0 0 (fun _ h => List.mem_cons_of_mem _ (List.mem_append_left _ (List.mem_append_left _ (List.mem_append_right _ h)))) (List.mem_of_getElem? (i := 1) rfl) rfl rfl (by decide) rfl rfl dX6_set_1 ?_
  refine g_iload_n 1 dX6_set_4 rfl rfl ?_
  refine g_callV_q (n := 1) (As := [.int (iI i)]) (wr := [(x0, oo 6 [.ref v, .ref h0, .ref a3, .ref a4, .ref a5, .int (iI lo)]), (ad 0, oo 3 (fMa 0 .null (sd 0) (g 0))), (ad 1, oo 3 (fMa 1 (.ref (ad 0)) (sd 1) (g 1))), (ad 2, oo 3 (fMa 2 (.ref (ad 1)) (sd 2) (g 2))), (ad 3, oo 3 (fMa 3 (.ref (ad 2)) (sd 3) (g 3))), (ad 4, oo 3 (fMa 4 (.ref (ad 3)) (sd 4) (g 4))), (ad 5, oo 3 (fMa 5 (.ref (ad 4)) (sd 5) (g 5))), (sd 0, aI E 4 (S 0)), (sd 1, aI E 4 (S 1)), (sd 2, aI E 4 (S 2)), (sd 3, aI E 4 (S 3)), (sd 4, aI E 4 (S 4)), (sd 5, aI E 4 (S 5))]) (C := RX1) [] (c_X1_machineAt E v ma fo la M ti so ta go sl mq ad i (by omega) (by omega) (by omega) (by omega) (by exact hmq) (by omega)) [1, 2] [0, 3, 4, 5, 6, 7, 8, 9, 10, 11, 12, 13, 14] 0 rfl rfl gX6_set_X1_machineAt rfl ⟨rfl, by decide +kernel⟩ ⟨by decide, by decide⟩ rfl rfl rfl rfl rfl (by decide) rfl (by decide) (by decide) (fun _ h => absurd h List.not_mem_nil) dX6_set_5 rfl (Nat.le_of_ble_eq_true rfl) ⟨by decide, by decide⟩ (fun r u p_1 => ?_)
  obtain ⟨rfl, rfl⟩ := p_1
  refine g_perm (ws1 := [(x0, oo 6 [.ref v, .ref h0, .ref a3, .ref a4, .ref a5, .int (iI lo)]), (v, oo 1 [.ref ma, .int (iI M), .ref fo, .ref la, .int (iI ti), .int (iI so), .int (iI ta), .int (iI go), .int (iI sl)]), (ma, aM E 6 mq), (ad 0, oo 3 (fMa 0 .null (sd 0) (g 0))), (ad 1, oo 3 (fMa 1 (.ref (ad 0)) (sd 1) (g 1))), (ad 2, oo 3 (fMa 2 (.ref (ad 1)) (sd 2) (g 2))), (ad 3, oo 3 (fMa 3 (.ref (ad 2)) (sd 3) (g 3))), (ad 4, oo 3 (fMa 4 (.ref (ad 3)) (sd 4) (g 4))), (ad 5, oo 3 (fMa 5 (.ref (ad 4)) (sd 5) (g 5))), (sd 0, aI E 4 (S 0)), (sd 1, aI E 4 (S 1)), (sd 2, aI E 4 (S 2)), (sd 3, aI E 4 (S 3)), (sd 4, aI E 4 (S 4)), (sd 5, aI E 4 (S 5))]) [0, 13, 14, 1, 2, 3, 4, 5, 6, 7, 8, 9, 10, 11, 12] rfl (by decide) rfl ?_
  rcases (show (i = 0 ∧ i < M) ∨ (i = 1 ∧ i < M) ∨ (i = 2 ∧ i < M) ∨ (i = 3 ∧ i < M) ∨ (i = 4 ∧ i < M) ∨ (i = 5 ∧ i < M) ∨ ¬ (0 ≤ i ∧ i < M) by omega) with hik | hik | hik | hik | hik | hik | hik
  · refine g_as (st1 := [.ref (ad 0)]) ?_ rfl rfl (by rw [if_pos (by omega), hik.1]; rfl)
    refine g_astore (lv1 := [(4, .ref (ad 0)), (0, .ref x0), (1, .int (iI i)), (2, .int (iI what)), (3, .int (iI w))]) dX6_set_8 (by decide) rfl ?_
    refine g_aload 0 dX6_set_10 rfl ?_
    refine g_ifnull dX6_set_12 ?_
    refine g_aload 0 dX6_set_15 rfl ?_
    refine g_iload_n 3 dX6_set_17 rfl rfl ?_
    refine g_iload_n 4 dX6_set_18 rfl rfl ?_
    refine g_callV_i (n := 2) (As := [.int (iI what), .int (iI w)]) (wr := [(x0, oo 6 [.ref v, .ref h0, .ref a3, .ref a4, .ref a5, .int (iI lo)]), (v, oo 1 [.ref ma, .int (iI M), .ref fo, .ref la, .int (iI ti), .int (iI so), .int (iI ta), .int (iI go), .int (iI sl)]), (ma, aM E 6 mq), (ad 1, oo 3 (fMa 1 (.ref (ad 0)) (sd 1) (g 1))), (ad 2, oo 3 (fMa 2 (.ref (ad 1)) (sd 2) (g 2))), (ad 3, oo 3 (fMa 3 (.ref (ad 2)) (sd 3) (g 3))), (ad 4, oo 3 (fMa 4 (.ref (ad 3)) (sd 4) (g 4))), (ad 5, oo 3 (fMa 5 (.ref (ad 4)) (sd 5) (g 5))), (sd 0, aI E 4 (S 0)), (sd 1, aI E 4 (S 1)), (sd 2, aI E 4 (S 2)), (sd 3, aI E 4 (S 3)), (sd 4, aI E 4 (S 4)), (sd 5, aI E 4 (S 5))]) (C := RX3) [] (c_X3_mayBeSet E (ad 0) (sd 0) 0 .null (g 0) what w t3 t4 (by omega) (by omega)) [3] [0, 1, 2, 4, 5, 6, 7, 8, 9, 10, 11, 12, 13, 14] 0 rfl rfl gX6_set_X3_mayBeSet rfl ⟨rfl, by decide +kernel⟩ ⟨by decide, by decide⟩ rfl rfl rfl rfl rfl (by decide) rfl (by decide) (by decide) (fun _ h => h) dX6_set_19 rfl (Nat.le_of_ble_eq_true rfl) ⟨by decide, by decide⟩ (fun r u p_2 => ?_)
    obtain ⟨rfl, rfl⟩ := p_2
    refine g_perm (ws1 := [(x0, oo 6 [.ref v, .ref h0, .ref a3, .ref a4, .ref a5, .int (iI lo)]), (v, oo 1 [.ref ma, .int (iI M), .ref fo, .ref la, .int (iI ti), .int (iI so), .int (iI ta), .int (iI go), .int (iI sl)]), (ma, aM E 6 mq), (ad 0, oo 3 (fMa 0 .null (sd 0) (g 0))), (ad 1, oo 3 (fMa 1 (.ref (ad 0)) (sd 1) (g 1))), (ad 2, oo 3 (fMa 2 (.ref (ad 1)) (sd 2) (g 2))), (ad 3, oo 3 (fMa 3 (.ref (ad 2)) (sd 3) (g 3))), (ad 4, oo 3 (fMa 4 (.ref (ad 3)) (sd 4) (g 4))), (ad 5, oo 3 (fMa 5 (.ref (ad 4)) (sd 5) (g 5))), (sd 0, aI E 4 (S 0)), (sd 1, aI E 4 (S 1)), (sd 2, aI E 4 (S 2)), (sd 3, aI E 4 (S 3)), (sd 4, aI E 4 (S 4)), (sd 5, aI E 4 (S 5))]) [0, 1, 2, 14, 3, 4, 5, 6, 7, 8, 9, 10, 11, 12, 13] rfl (by decide) rfl ?_
    refine g_if_eq_b (tgt := 42) dX6_set_22 rfl (fun c_3 => ?_) (fun c_3 => ?_)
    · refine g_iload_n 3 dX6_set_25 rfl rfl ?_
      refine g_iconst dX6_set_26 ?_
      refine g_icmp_ne (tgt := 44) (by unfold R32; omega) (by unfold R32; omega) dX6_set_27 rfl (fun c_4 => ?_) (fun c_4 => ?_)
      · refine g_aload_n 1 dX6_set_30 rfl rfl ?_
        refine g_get (C := RX6) (T := TX6) (N := 6) 0 0 (fun _ h => List.mem_cons_of_mem _ (List.mem_append_left _ (List.mem_append_left _ (List.mem_append_right _ h)))) (List.mem_of_getElem? (i := 1) rfl) rfl rfl (by decide) rfl rfl dX6_set_31 ?_
        refine g_aload 0 dX6_set_34 rfl ?_
        refine g_callV_i (n := 1) (As := [.ref (ad 0)]) (wr := [(x0, oo 6 [.ref v, .ref h0, .ref a3, .ref a4, .ref a5, .int (iI lo)]), (ma, aM E 6 mq), (ad 1, oo 3 (fMa 1 (.ref (ad 0)) (sd 1) (g 1))), (ad 2, oo 3 (fMa 2 (.ref (ad 1)) (sd 2) (g 2))), (ad 3, oo 3 (fMa 3 (.ref (ad 2)) (sd 3) (g 3))), (ad 4, oo 3 (fMa 4 (.ref (ad 3)) (sd 4) (g 4))), (ad 5, oo 3 (fMa 5 (.ref (ad 4)) (sd 5) (g 5))), (sd 0, aI E 4 (S 0)), (sd 1, aI E 4 (S 1)), (sd 2, aI E 4 (S 2)), (sd 3, aI E 4 (S 3)), (sd 4, aI E 4 (S 4)), (sd 5, aI E 4 (S 5))]) (C := RX1) [] (c_X1_isLast E v ma fo la M ti so ta go sl (ad 0) (sd 0) 0 .null (g 0) (by omega) (by omega) (by omega) (by omega) (by omega)) [1, 3] [0, 2, 4, 5, 6, 7, 8, 9, 10, 11, 12, 13, 14] 0 rfl rfl gX6_set_X1_isLast rfl ⟨rfl, by decide +kernel⟩ ⟨by decide, by decide⟩ rfl rfl rfl rfl rfl (by decide) rfl (by decide) (by decide) (fun _ h => absurd h List.not_mem_nil) dX6_set_36 rfl (Nat.le_of_ble_eq_true rfl) ⟨by decide, by decide⟩ (fun r u p_5 => ?_)
        obtain ⟨rfl, rfl⟩ := p_5
        refine g_perm (ws1 := [(x0, oo 6 [.ref v, .ref h0, .ref a3, .ref a4, .ref a5, .int (iI lo)]), (v, oo 1 [.ref ma, .int (iI M), .ref fo, .ref la, .int (iI ti), .int (iI so), .int (iI ta), .int (iI go), .int (iI sl)]), (ma, aM E 6 mq), (ad 0, oo 3 (fMa 0 .null (sd 0) (g 0))), (ad 1, oo 3 (fMa 1 (.ref (ad 0)) (sd 1) (g 1))), (ad 2, oo 3 (fMa 2 (.ref (ad 1)) (sd 2) (g 2))), (ad 3, oo 3 (fMa 3 (.ref (ad 2)) (sd 3) (g 3))), (ad 4, oo 3 (fMa 4 (.ref (ad 3)) (sd 4) (g 4))), (ad 5, oo 3 (fMa 5 (.ref (ad 4)) (sd 5) (g 5))), (sd 0, aI E 4 (S 0)), (sd 1, aI E 4 (S 1)), (sd 2, aI E 4 (S 2)), (sd 3, aI E 4 (S 3)), (sd 4, aI E 4 (S 4)), (sd 5, aI E 4 (S 5))]) [0, 13, 1, 14, 2, 3, 4, 5, 6, 7, 8, 9, 10, 11, 12] rfl (by decide) rfl ?_
        refine g_if_eq_b (tgt := 44) dX6_set_39 rfl (fun c_6 => ?_) (fun c_6 => ?_)
        · refine g_iconst dX6_set_42 ?_
          exact g_iret hRet dX6_set_43 rfl ⟨(-1), S, (by unfold sp_set; rw [if_pos (by omega)]; exact ⟨rfl, rfl⟩), rfl, rfl⟩
        · refine g_iload_n 3 dX6_set_44 rfl rfl ?_
          refine g_iconst dX6_set_45 ?_
          refine g_icmp_ne (tgt := 61) (by unfold R32; omega) (by unfold R32; omega) dX6_set_46 rfl (fun c_7 => ?_) (fun c_7 => ?_)
          · refine g_aload 0 dX6_set_49 rfl ?_
            refine g_get (v := .int (iI ((g 0) 0))) (C := RX3) (T := TX3) (N := 14) 3 3 (fun _ h => List.mem_cons_of_mem _ (List.mem_append_left _ (List.mem_append_right _ h))) (List.mem_of_getElem? (i := 2) rfl) rfl rfl (by decide) rfl rfl dX6_set_51 ?_
            refine g_iload_n 4 dX6_set_54 rfl rfl ?_
            refine g_icmp_le (tgt := 61) (by have q0 := hgk 0 (by omega) (by omega); have q1 := hgk 1 (by omega) (by omega); have q2 := hgk 2 (by omega) (by omega); have q3 := hgk 3 (by omega) (by omega); have q4 := hgk 4 (by omega) (by omega); have q5 := hgk 5 (by omega) (by omega); unfold mOk at q0 q1 q2 q3 q4 q5; unfold R32; omega) (by have q0 := hgk 0 (by omega) (by omega); have q1 := hgk 1 (by omega) (by omega); have q2 := hgk 2 (by omega) (by omega); have q3 := hgk 3 (by omega) (by omega); have q4 := hgk 4 (by omega) (by omega); have q5 := hgk 5 (by omega) (by omega); unfold mOk at q0 q1 q2 q3 q4 q5; unfold R32; omega) dX6_set_55 rfl (fun hgv => ?_) (fun hgv => ?_)
            · refine g_aload 0 dX6_set_61 rfl ?_
              refine g_iload_n 3 dX6_set_63 rfl rfl ?_
              refine g_iload_n 4 dX6_set_64 rfl rfl ?_
              refine g_callV_i (n := 2) (As := [.int (iI what), .int (iI w)]) (wr := [(x0, oo 6 [.ref v, .ref h0, .ref a3, .ref a4, .ref a5, .int (iI lo)]), (v, oo 1 [.ref ma, .int (iI M), .ref fo, .ref la, .int (iI ti), .int (iI so), .int (iI ta), .int (iI go), .int (iI sl)]), (ma, aM E 6 mq), (ad 1, oo 3 (fMa 1 (.ref (ad 0)) (sd 1) (g 1))), (ad 2, oo 3 (fMa 2 (.ref (ad 1)) (sd 2) (g 2))), (ad 3, oo 3 (fMa 3 (.ref (ad 2)) (sd 3) (g 3))), (ad 4, oo 3 (fMa 4 (.ref (ad 3)) (sd 4) (g 4))), (ad 5, oo 3 (fMa 5 (.ref (ad 4)) (sd 5) (g 5))), (sd 1, aI E 4 (S 1)), (sd 2, aI E 4 (S 2)), (sd 3, aI E 4 (S 3)), (sd 4, aI E 4 (S 4)), (sd 5, aI E 4 (S 5))]) (C := RX3) [] (c_X3_put E (ad 0) (sd 0) 0 .null (g 0) (S 0) what w t3 t4 (by omega) (by omega) (by omega)) [3, 9] [0, 1, 2, 4, 5, 6, 7, 8, 10, 11, 12, 13, 14] 0 rfl rfl gX6_set_X3_put rfl ⟨rfl, by decide +kernel⟩ ⟨by decide, by decide⟩ rfl rfl rfl rfl rfl (by decide) rfl (by decide) (by decide) (fun _ h => h) dX6_set_65 rfl (Nat.le_of_ble_eq_true rfl) ⟨by decide, by decide⟩ (fun r u p_8 => ?_)
              obtain ⟨rfl, rfl⟩ := p_8
              refine g_perm (ws1 := [(x0, oo 6 [.ref v, .ref h0, .ref a3, .ref a4, .ref a5, .int (iI lo)]), (v, oo 1 [.ref ma, .int (iI M), .ref fo, .ref la, .int (iI ti), .int (iI so), .int (iI ta), .int (iI go), .int (iI sl)]), (ma, aM E 6 mq), (ad 0, oo 3 (fMa 0 .null (sd 0) (g 0))), (ad 1, oo 3 (fMa 1 (.ref (ad 0)) (sd 1) (g 1))), (ad 2, oo 3 (fMa 2 (.ref (ad 1)) (sd 2) (g 2))), (ad 3, oo 3 (fMa 3 (.ref (ad 2)) (sd 3) (g 3))), (ad 4, oo 3 (fMa 4 (.ref (ad 3)) (sd 4) (g 4))), (ad 5, oo 3 (fMa 5 (.ref (ad 4)) (sd 5) (g 5))), (sd 0, aI E 4 (up (S 0) what w)), (sd 1, aI E 4 (S 1)), (sd 2, aI E 4 (S 2)), (sd 3, aI E 4 (S 3)), (sd 4, aI E 4 (S 4)), (sd 5, aI E 4 (S 5))]) [0, 1, 2, 13, 3, 4, 5, 6, 7, 14, 8, 9, 10, 11, 12] rfl (by decide) rfl ?_
              exact g_iret hRet dX6_set_68 rfl ⟨((S 0) what), (ug S 0 (up (S 0) what w)), (by unfold sp_set; rw [hik.1, if_neg (by omega), if_neg (by omega)]; exact ⟨rfl, rfl⟩), rfl, rfl⟩
            · refine g_bipush dX6_set_58 rfl ?_
              exact g_iret hRet dX6_set_60 rfl ⟨(-2), S, (by unfold sp_set; rw [hik.1, if_neg (by omega), if_pos (by omega)]; exact ⟨rfl, rfl⟩), rfl, rfl⟩
          · exact absurd c_4 (by assumption)
      · refine g_iload_n 3 dX6_set_44 rfl rfl ?_
        refine g_iconst dX6_set_45 ?_
        refine g_icmp_ne (tgt := 61) (by unfold R32; omega) (by unfold R32; omega) dX6_set_46 rfl (fun c_9 => ?_) (fun c_9 => ?_)
        · exact absurd (by assumption) c_4
        · refine g_aload 0 dX6_set_61 rfl ?_
          refine g_iload_n 3 dX6_set_63 rfl rfl ?_
          refine g_iload_n 4 dX6_set_64 rfl rfl ?_
          refine g_callV_i (n := 2) (As := [.int (iI what), .int (iI w)]) (wr := [(x0, oo 6 [.ref v, .ref h0, .ref a3, .ref a4, .ref a5, .int (iI lo)]), (v, oo 1 [.ref ma, .int (iI M), .ref fo, .ref la, .int (iI ti), .int (iI so), .int (iI ta), .int (iI go), .int (iI sl)]), (ma, aM E 6 mq), (ad 1, oo 3 (fMa 1 (.ref (ad 0)) (sd 1) (g 1))), (ad 2, oo 3 (fMa 2 (.ref (ad 1)) (sd 2) (g 2))), (ad 3, oo 3 (fMa 3 (.ref (ad 2)) (sd 3) (g 3))), (ad 4, oo 3 (fMa 4 (.ref (ad 3)) (sd 4) (g 4))), (ad 5, oo 3 (fMa 5 (.ref (ad 4)) (sd 5) (g 5))), (sd 1, aI E 4 (S 1)), (sd 2, aI E 4 (S 2)), (sd 3, aI E 4 (S 3)), (sd 4, aI E 4 (S 4)), (sd 5, aI E 4 (S 5))]) (C := RX3) [] (c_X3_put E (ad 0) (sd 0) 0 .null (g 0) (S 0) what w t3 t4 (by omega) (by omega) (by omega)) [3, 9] [0, 1, 2, 4, 5, 6, 7, 8, 10, 11, 12, 13, 14] 0 rfl rfl gX6_set_X3_put rfl ⟨rfl, by decide +kernel⟩ ⟨by decide, by decide⟩ rfl rfl rfl rfl rfl (by decide) rfl (by decide) (by decide) (fun _ h => h) dX6_set_65 rfl (Nat.le_of_ble_eq_true rfl) ⟨by decide, by decide⟩ (fun r u p_10 => ?_)
          obtain ⟨rfl, rfl⟩ := p_10
          refine g_perm (ws1 := [(x0, oo 6 [.ref v, .ref h0, .ref a3, .ref a4, .ref a5, .int (iI lo)]), (v, oo 1 [.ref ma, .int (iI M), .ref fo, .ref la, .int (iI ti), .int (iI so), .int (iI ta), .int (iI go), .int (iI sl)]), (ma, aM E 6 mq), (ad 0, oo 3 (fMa 0 .null (sd 0) (g 0))), (ad 1, oo 3 (fMa 1 (.ref (ad 0)) (sd 1) (g 1))), (ad 2, oo 3 (fMa 2 (.ref (ad 1)) (sd 2) (g 2))), (ad 3, oo 3 (fMa 3 (.ref (ad 2)) (sd 3) (g 3))), (ad 4, oo 3 (fMa 4 (.ref (ad 3)) (sd 4) (g 4))), (ad 5, oo 3 (fMa 5 (.ref (ad 4)) (sd 5) (g 5))), (sd 0, aI E 4 (up (S 0) what w)), (sd 1, aI E 4 (S 1)), (sd 2, aI E 4 (S 2)), (sd 3, aI E 4 (S 3)), (sd 4, aI E 4 (S 4)), (sd 5, aI E 4 (S 5))]) [0, 1, 2, 13, 3, 4, 5, 6, 7, 14, 8, 9, 10, 11, 12] rfl (by decide) rfl ?_
          exact g_iret hRet dX6_set_68 rfl ⟨((S 0) what), (ug S 0 (up (S 0) what w)), (by unfold sp_set; rw [hik.1, if_neg (by omega), if_neg (by omega)]; exact ⟨rfl, rfl⟩), rfl, rfl⟩
    · refine g_iconst dX6_set_42 ?_
      exact g_iret hRet dX6_set_43 rfl ⟨(-1), S, (by unfold sp_set; rw [if_pos (by omega)]; exact ⟨rfl, rfl⟩), rfl, rfl⟩
  · refine g_as (st1 := [.ref (ad 1)]) ?_ rfl rfl (by rw [if_pos (by omega), hik.1]; rfl)
    refine g_astore (lv1 := [(4, .ref (ad 1)), (0, .ref x0), (1, .int (iI i)), (2, .int (iI what)), (3, .int (iI w))]) dX6_set_8 (by decide) rfl ?_
    refine g_aload 0 dX6_set_10 rfl ?_
    refine g_ifnull dX6_set_12 ?_
    refine g_aload 0 dX6_set_15 rfl ?_
    refine g_iload_n 3 dX6_set_17 rfl rfl ?_
    refine g_iload_n 4 dX6_set_18 rfl rfl ?_
    refine g_callV_i (n := 2) (As := [.int (iI what), .int (iI w)]) (wr := [(x0, oo 6 [.ref v, .ref h0, .ref a3, .ref a4, .ref a5, .int (iI lo)]), (v, oo 1 [.ref ma, .int (iI M), .ref fo, .ref la, .int (iI ti), .int (iI so), .int (iI ta), .int (iI go), .int (iI sl)]), (ma, aM E 6 mq), (ad 0, oo 3 (fMa 0 .null (sd 0) (g 0))), (ad 2, oo 3 (fMa 2 (.ref (ad 1)) (sd 2) (g 2))), (ad 3, oo 3 (fMa 3 (.ref (ad 2)) (sd 3) (g 3))), (ad 4, oo 3 (fMa 4 (.ref (ad 3)) (sd 4) (g 4))), (ad 5, oo 3 (fMa 5 (.ref (ad 4)) (sd 5) (g 5))), (sd 0, aI E 4 (S 0)), (sd 1, aI E 4 (S 1)), (sd 2, aI E 4 (S 2)), (sd 3, aI E 4 (S 3)), (sd 4, aI E 4 (S 4)), (sd 5, aI E 4 (S 5))]) (C := RX3) [] (c_X3_mayBeSet E (ad 1) (sd 1) 1 (.ref (ad 0)) (g 1) what w t3 t4 (by omega) (by omega)) [4] [0, 1, 2, 3, 5, 6, 7, 8, 9, 10, 11, 12, 13, 14] 0 rfl rfl gX6_set_X3_mayBeSet rfl ⟨rfl, by decide +kernel⟩ ⟨by decide, by decide⟩ rfl rfl rfl rfl rfl (by decide) rfl (by decide) (by decide) (fun _ h => h) dX6_set_19 rfl (Nat.le_of_ble_eq_true rfl) ⟨by decide, by decide⟩ (fun r u p_11 => ?_)
    obtain ⟨rfl, rfl⟩ := p_11
    refine g_perm (ws1 := [(x0, oo 6 [.ref v, .ref h0, .ref a3, .ref a4, .ref a5, .int (iI lo)]), (v, oo 1 [.ref ma, .int (iI M), .ref fo, .ref la, .int (iI ti), .int (iI so), .int (iI ta), .int (iI go), .int (iI sl)]), (ma, aM E 6 mq), (ad 0, oo 3 (fMa 0 .null (sd 0) (g 0))), (ad 1, oo 3 (fMa 1 (.ref (ad 0)) (sd 1) (g 1))), (ad 2, oo 3 (fMa 2 (.ref (ad 1)) (sd 2) (g 2))), (ad 3, oo 3 (fMa 3 (.ref (ad 2)) (sd 3) (g 3))), (ad 4, oo 3 (fMa 4 (.ref (ad 3)) (sd 4) (g 4))), (ad 5, oo 3 (fMa 5 (.ref (ad 4)) (sd 5) (g 5))), (sd 0, aI E 4 (S 0)), (sd 1, aI E 4 (S 1)), (sd 2, aI E 4 (S 2)), (sd 3, aI E 4 (S 3)), (sd 4, aI E 4 (S 4)), (sd 5, aI E 4 (S 5))]) [0, 1, 2, 3, 14, 4, 5, 6, 7, 8, 9, 10, 11, 12, 13] rfl (by decide) rfl ?_
    refine g_if_eq_b (tgt := 42) dX6_set_22 rfl (fun c_12 => ?_) (fun c_12 => ?_)
    · refine g_iload_n 3 dX6_set_25 rfl rfl ?_
      refine g_iconst dX6_set_26 ?_
      refine g_icmp_ne (tgt := 44) (by unfold R32; omega) (by unfold R32; omega) dX6_set_27 rfl (fun c_13 => ?_) (fun c_13 => ?_)
      · refine g_aload_n 1 dX6_set_30 rfl rfl ?_
        refine g_get (C := RX6) (T := TX6) (N := 6) 0 0 (fun _ h => List.mem_cons_of_mem _ (List.mem_append_left _ (List.mem_append_left _ (List.mem_append_right _ h)))) (List.mem_of_getElem? (i := 1) rfl) rfl rfl (by decide) rfl rfl dX6_set_31 ?_
        refine g_aload 0 dX6_set_34 rfl ?_
        refine g_callV_i (n := 1) (As := [.ref (ad 1)]) (wr := [(x0, oo 6 [.ref v, .ref h0, .ref a3, .ref a4, .ref a5, .int (iI lo)]), (ma, aM E 6 mq), (ad 0, oo 3 (fMa 0 .null (sd 0) (g 0))), (ad 2, oo 3 (fMa 2 (.ref (ad 1)) (sd 2) (g 2))), (ad 3, oo 3 (fMa 3 (.ref (ad 2)) (sd 3) (g 3))), (ad 4, oo 3 (fMa 4 (.ref (ad 3)) (sd 4) (g 4))), (ad 5, oo 3 (fMa 5 (.ref (ad 4)) (sd 5) (g 5))), (sd 0, aI E 4 (S 0)), (sd 1, aI E 4 (S 1)), (sd 2, aI E 4 (S 2)), (sd 3, aI E 4 (S 3)), (sd 4, aI E 4 (S 4)), (sd 5, aI E 4 (S 5))]) (C := RX1) [] (c_X1_isLast E v ma fo la M ti so ta go sl (ad 1) (sd 1) 1 (.ref (ad 0)) (g 1) (by omega) (by omega) (by omega) (by omega) (by omega)) [1, 4] [0, 2, 3, 5, 6, 7, 8, 9, 10, 11, 12, 13, 14] 0 rfl rfl gX6_set_X1_isLast rfl ⟨rfl, by decide +kernel⟩ ⟨by decide, by decide⟩ rfl rfl rfl rfl rfl (by decide) rfl (by decide) (by decide) (fun _ h => absurd h List.not_mem_nil) dX6_set_36 rfl (Nat.le_of_ble_eq_true rfl) ⟨by decide, by decide⟩ (fun r u p_14 => ?_)
        obtain ⟨rfl, rfl⟩ := p_14
        refine g_perm (ws1 := [(x0, oo 6 [.ref v, .ref h0, .ref a3, .ref a4, .ref a5, .int (iI lo)]), (v, oo 1 [.ref ma, .int (iI M), .ref fo, .ref la, .int (iI ti), .int (iI so), .int (iI ta), .int (iI go), .int (iI sl)]), (ma, aM E 6 mq), (ad 0, oo 3 (fMa 0 .null (sd 0) (g 0))), (ad 1, oo 3 (fMa 1 (.ref (ad 0)) (sd 1) (g 1))), (ad 2, oo 3 (fMa 2 (.ref (ad 1)) (sd 2) (g 2))), (ad 3, oo 3 (fMa 3 (.ref (ad 2)) (sd 3) (g 3))), (ad 4, oo 3 (fMa 4 (.ref (ad 3)) (sd 4) (g 4))), (ad 5, oo 3 (fMa 5 (.ref (ad 4)) (sd 5) (g 5))), (sd 0, aI E 4 (S 0)), (sd 1, aI E 4 (S 1)), (sd 2, aI E 4 (S 2)), (sd 3, aI E 4 (S 3)), (sd 4, aI E 4 (S 4)), (sd 5, aI E 4 (S 5))]) [0, 13, 1, 2, 14, 3, 4, 5, 6, 7, 8, 9, 10, 11, 12] rfl (by decide) rfl ?_
        refine g_if_eq_b (tgt := 44) dX6_set_39 rfl (fun c_15 => ?_) (fun c_15 => ?_)
        · refine g_iconst dX6_set_42 ?_
          exact g_iret hRet dX6_set_43 rfl ⟨(-1), S, (by unfold sp_set; rw [if_pos (by omega)]; exact ⟨rfl, rfl⟩), rfl, rfl⟩
        · refine g_iload_n 3 dX6_set_44 rfl rfl ?_
          refine g_iconst dX6_set_45 ?_
          refine g_icmp_ne (tgt := 61) (by unfold R32; omega) (by unfold R32; omega) dX6_set_46 rfl (fun c_16 => ?_) (fun c_16 => ?_)
          · refine g_aload 0 dX6_set_49 rfl ?_
            refine g_get (v := .int (iI ((g 1) 0))) (C := RX3) (T := TX3) (N := 14) 4 3 (fun _ h => List.mem_cons_of_mem _ (List.mem_append_left _ (List.mem_append_right _ h))) (List.mem_of_getElem? (i := 2) rfl) rfl rfl (by decide) rfl rfl dX6_set_51 ?_
            refine g_iload_n 4 dX6_set_54 rfl rfl ?_
            refine g_icmp_le (tgt := 61) (by have q0 := hgk 0 (by omega) (by omega); have q1 := hgk 1 (by omega) (by omega); have q2 := hgk 2 (by omega) (by omega); have q3 := hgk 3 (by omega) (by omega); have q4 := hgk 4 (by omega) (by omega); have q5 := hgk 5 (by omega) (by omega); unfold mOk at q0 q1 q2 q3 q4 q5; unfold R32; omega) (by have q0 := hgk 0 (by omega) (by omega); have q1 := hgk 1 (by omega) (by omega); have q2 := hgk 2 (by omega) (by omega); have q3 := hgk 3 (by omega) (by omega); have q4 := hgk 4 (by omega) (by omega); have q5 := hgk 5 (by omega) (by omega); unfold mOk at q0 q1 q2 q3 q4 q5; unfold R32; omega) dX6_set_55 rfl (fun hgv => ?_) (fun hgv => ?_)
            · refine g_aload 0 dX6_set_61 rfl ?_
              refine g_iload_n 3 dX6_set_63 rfl rfl ?_
              refine g_iload_n 4 dX6_set_64 rfl rfl ?_
              refine g_callV_i (n := 2) (As := [.int (iI what), .int (iI w)]) (wr := [(x0, oo 6 [.ref v, .ref h0, .ref a3, .ref a4, .ref a5, .int (iI lo)]), (v, oo 1 [.ref ma, .int (iI M), .ref fo, .ref la, .int (iI ti), .int (iI so), .int (iI ta), .int (iI go), .int (iI sl)]), (ma, aM E 6 mq), (ad 0, oo 3 (fMa 0 .null (sd 0) (g 0))), (ad 2, oo 3 (fMa 2 (.ref (ad 1)) (sd 2) (g 2))), (ad 3, oo 3 (fMa 3 (.ref (ad 2)) (sd 3) (g 3))), (ad 4, oo 3 (fMa 4 (.ref (ad 3)) (sd 4) (g 4))), (ad 5, oo 3 (fMa 5 (.ref (ad 4)) (sd 5) (g 5))), (sd 0, aI E 4 (S 0)), (sd 2, aI E 4 (S 2)), (sd 3, aI E 4 (S 3)), (sd 4, aI E 4 (S 4)), (sd 5, aI E 4 (S 5))]) (C := RX3) [] (c_X3_put E (ad 1) (sd 1) 1 (.ref (ad 0)) (g 1) (S 1) what w t3 t4 (by omega) (by omega) (by omega)) [4, 10] [0, 1, 2, 3, 5, 6, 7, 8, 9, 11, 12, 13, 14] 0 rfl rfl gX6_set_X3_put rfl ⟨rfl, by decide +kernel⟩ ⟨by decide, by decide⟩ rfl rfl rfl rfl rfl (by decide) rfl (by decide) (by decide) (fun _ h => h) dX6_set_65 rfl (Nat.le_of_ble_eq_true rfl) ⟨by decide, by decide⟩ (fun r u p_17 => ?_)
              obtain ⟨rfl, rfl⟩ := p_17
              refine g_perm (ws1 := [(x0, oo 6 [.ref v, .ref h0, .ref a3, .ref a4, .ref a5, .int (iI lo)]), (v, oo 1 [.ref ma, .int (iI M), .ref fo, .ref la, .int (iI ti), .int (iI so), .int (iI ta), .int (iI go), .int (iI sl)]), (ma, aM E 6 mq), (ad 0, oo 3 (fMa 0 .null (sd 0) (g 0))), (ad 1, oo 3 (fMa 1 (.ref (ad 0)) (sd 1) (g 1))), (ad 2, oo 3 (fMa 2 (.ref (ad 1)) (sd 2) (g 2))), (ad 3, oo 3 (fMa 3 (.ref (ad 2)) (sd 3) (g 3))), (ad 4, oo 3 (fMa 4 (.ref (ad 3)) (sd 4) (g 4))), (ad 5, oo 3 (fMa 5 (.ref (ad 4)) (sd 5) (g 5))), (sd 0, aI E 4 (S 0)), (sd 1, aI E 4 (up (S 1) what w)), (sd 2, aI E 4 (S 2)), (sd 3, aI E 4 (S 3)), (sd 4, aI E 4 (S 4)), (sd 5, aI E 4 (S 5))]) [0, 1, 2, 3, 13, 4, 5, 6, 7, 8, 14, 9, 10, 11, 12] rfl (by decide) rfl ?_
              exact g_iret hRet dX6_set_68 rfl ⟨((S 1) what), (ug S 1 (up (S 1) what w)), (by unfold sp_set; rw [hik.1, if_neg (by omega), if_neg (by omega)]; exact ⟨rfl, rfl⟩), rfl, rfl⟩
            · refine g_bipush dX6_set_58 rfl ?_
              exact g_iret hRet dX6_set_60 rfl ⟨(-2), S, (by unfold sp_set; rw [hik.1, if_neg (by omega), if_pos (by omega)]; exact ⟨rfl, rfl⟩), rfl, rfl⟩
          · exact absurd c_13 (by assumption)
      · refine g_iload_n 3 dX6_set_44 rfl rfl ?_
        refine g_iconst dX6_set_45 ?_
        refine g_icmp_ne (tgt := 61) (by unfold R32; omega) (by unfold R32; omega) dX6_set_46 rfl (fun c_18 => ?_) (fun c_18 => ?_)
        · exact absurd (by assumption) c_13
        · refine g_aload 0 dX6_set_61 rfl ?_
          refine g_iload_n 3 dX6_set_63 rfl rfl ?_
          refine g_iload_n 4 dX6_set_64 rfl rfl ?_
          refine g_callV_i (n := 2) (As := [.int (iI what), .int (iI w)]) (wr := [(x0, oo 6 [.ref v, .ref h0, .ref a3, .ref a4, .ref a5, .int (iI lo)]), (v, oo 1 [.ref ma, .int (iI M), .ref fo, .ref la, .int (iI ti), .int (iI so), .int (iI ta), .int (iI go), .int (iI sl)]), (ma, aM E 6 mq), (ad 0, oo 3 (fMa 0 .null (sd 0) (g 0))), (ad 2, oo 3 (fMa 2 (.ref (ad 1)) (sd 2) (g 2))), (ad 3, oo 3 (fMa 3 (.ref (ad 2)) (sd 3) (g 3))), (ad 4, oo 3 (fMa 4 (.ref (ad 3)) (sd 4) (g 4))), (ad 5, oo 3 (fMa 5 (.ref (ad 4)) (sd 5) (g 5))), (sd 0, aI E 4 (S 0)), (sd 2, aI E 4 (S 2)), (sd 3, aI E 4 (S 3)), (sd 4, aI E 4 (S 4)), (sd 5, aI E 4 (S 5))]) (C := RX3) [] (c_X3_put E (ad 1) (sd 1) 1 (.ref (ad 0)) (g 1) (S 1) what w t3 t4 (by omega) (by omega) (by omega)) [4, 10] [0, 1, 2, 3, 5, 6, 7, 8, 9, 11, 12, 13, 14] 0 rfl rfl gX6_set_X3_put rfl ⟨rfl, by decide +kernel⟩ ⟨by decide, by decide⟩ rfl rfl rfl rfl rfl (by decide) rfl (by decide) (by decide) (fun _ h => h) dX6_set_65 rfl (Nat.le_of_ble_eq_true rfl) ⟨by decide, by decide⟩ (fun r u p_19 => ?_)
          obtain ⟨rfl, rfl⟩ := p_19
          refine g_perm (ws1 := [(x0, oo 6 [.ref v, .ref h0, .ref a3, .ref a4, .ref a5, .int (iI lo)]), (v, oo 1 [.ref ma, .int (iI M), .ref fo, .ref la, .int (iI ti), .int (iI so), .int (iI ta), .int (iI go), .int (iI sl)]), (ma, aM E 6 mq), (ad 0, oo 3 (fMa 0 .null (sd 0) (g 0))), (ad 1, oo 3 (fMa 1 (.ref (ad 0)) (sd 1) (g 1))), (ad 2, oo 3 (fMa 2 (.ref (ad 1)) (sd 2) (g 2))), (ad 3, oo 3 (fMa 3 (.ref (ad 2)) (sd 3) (g 3))), (ad 4, oo 3 (fMa 4 (.ref (ad 3)) (sd 4) (g 4))), (ad 5, oo 3 (fMa 5 (.ref (ad 4)) (sd 5) (g 5))), (sd 0, aI E 4 (S 0)), (sd 1, aI E 4 (up (S 1) what w)), (sd 2, aI E 4 (S 2)), (sd 3, aI E 4 (S 3)), (sd 4, aI E 4 (S 4)), (sd 5, aI E 4 (S 5))]) [0, 1, 2, 3, 13, 4, 5, 6, 7, 8, 14, 9, 10, 11, 12] rfl (by decide) rfl ?_
          exact g_iret hRet dX6_set_68 rfl ⟨((S 1) what), (ug S 1 (up (S 1) what w)), (by unfold sp_set; rw [hik.1, if_neg (by omega), if_neg (by omega)]; exact ⟨rfl, rfl⟩), rfl, rfl⟩
    · refine g_iconst dX6_set_42 ?_
      exact g_iret hRet dX6_set_43 rfl ⟨(-1), S, (by unfold sp_set; rw [if_pos (by omega)]; exact ⟨rfl, rfl⟩), rfl, rfl⟩
  · refine g_as (st1 := [.ref (ad 2)]) ?_ rfl rfl (by rw [if_pos (by omega), hik.1]; rfl)
    refine g_astore (lv1 := [(4, .ref (ad 2)), (0, .ref x0), (1, .int (iI i)), (2, .int (iI what)), (3, .int (iI w))]) dX6_set_8 (by decide) rfl ?_
    refine g_aload 0 dX6_set_10 rfl ?_
    refine g_ifnull dX6_set_12 ?_
    refine g_aload 0 dX6_set_15 rfl ?_
    refine g_iload_n 3 dX6_set_17 rfl rfl ?_
    refine g_iload_n 4 dX6_set_18 rfl rfl ?_
    refine g_callV_i (n := 2) (As := [.int (iI what), .int (iI w)]) (wr := [(x0, oo 6 [.ref v, .ref h0, .ref a3, .ref a4, .ref a5, .int (iI lo)]), (v, oo 1 [.ref ma, .int (iI M), .ref fo, .ref la, .int (iI ti), .int (iI so), .int (iI ta), .int (iI go), .int (iI sl)]), (ma, aM E 6 mq), (ad 0, oo 3 (fMa 0 .null (sd 0) (g 0))), (ad 1, oo 3 (fMa 1 (.ref (ad 0)) (sd 1) (g 1))), (ad 3, oo 3 (fMa 3 (.ref (ad 2)) (sd 3) (g 3))), (ad 4, oo 3 (fMa 4 (.ref (ad 3)) (sd 4) (g 4))), (ad 5, oo 3 (fMa 5 (.ref (ad 4)) (sd 5) (g 5))), (sd 0, aI E 4 (S 0)), (sd 1, aI E 4 (S 1)), (sd 2, aI E 4 (S 2)), (sd 3, aI E 4 (S 3)), (sd 4, aI E 4 (S 4)), (sd 5, aI E 4 (S 5))]) (C := RX3) [] (c_X3_mayBeSet E (ad 2) (sd 2) 2 (.ref (ad 1)) (g 2) what w t3 t4 (by omega) (by omega)) [5] [0, 1, 2, 3, 4, 6, 7, 8, 9, 10, 11, 12, 13, 14] 0 rfl rfl gX6_set_X3_mayBeSet rfl ⟨rfl, by decide +kernel⟩ ⟨by decide, by decide⟩ rfl rfl rfl rfl rfl (by decide) rfl (by decide) (by decide) (fun _ h => h) dX6_set_19 rfl (Nat.le_of_ble_eq_true rfl) ⟨by decide, by decide⟩ (fun r u p_20 => ?_)
    obtain ⟨rfl, rfl⟩ := p_20
    refine g_perm (ws1 := [(x0, oo 6 [.ref v, .ref h0, .ref a3, .ref a4, .ref a5, .int (iI lo)]), (v, oo 1 [.ref ma, .int (iI M), .ref fo, .ref la, .int (iI ti), .int (iI so), .int (iI ta), .int (iI go), .int (iI sl)]), (ma, aM E 6 mq), (ad 0, oo 3 (fMa 0 .null (sd 0) (g 0))), (ad 1, oo 3 (fMa 1 (.ref (ad 0)) (sd 1) (g 1))), (ad 2, oo 3 (fMa 2 (.ref (ad 1)) (sd 2) (g 2))), (ad 3, oo 3 (fMa 3 (.ref (ad 2)) (sd 3) (g 3))), (ad 4, oo 3 (fMa 4 (.ref (ad 3)) (sd 4) (g 4))), (ad 5, oo 3 (fMa 5 (.ref (ad 4)) (sd 5) (g 5))), (sd 0, aI E 4 (S 0)), (sd 1, aI E 4 (S 1)), (sd 2, aI E 4 (S 2)), (sd 3, aI E 4 (S 3)), (sd 4, aI E 4 (S 4)), (sd 5, aI E 4 (S 5))]) [0, 1, 2, 3, 4, 14, 5, 6, 7, 8, 9, 10, 11, 12, 13] rfl (by decide) rfl ?_
    refine g_if_eq_b (tgt := 42) dX6_set_22 rfl (fun c_21 => ?_) (fun c_21 => ?_)
    · refine g_iload_n 3 dX6_set_25 rfl rfl ?_
      refine g_iconst dX6_set_26 ?_
      refine g_icmp_ne (tgt := 44) (by unfold R32; omega) (by unfold R32; omega) dX6_set_27 rfl (fun c_22 => ?_) (fun c_22 => ?_)
      · refine g_aload_n 1 dX6_set_30 rfl rfl ?_
        refine g_get (C := RX6) (T := TX6) (N := 6) 0 0 (fun _ h => List.mem_cons_of_mem _ (List.mem_append_left _ (List.mem_append_left _ (List.mem_append_right _ h)))) (List.mem_of_getElem? (i := 1) rfl) rfl rfl (by decide) rfl rfl dX6_set_31 ?_
        refine g_aload 0 dX6_set_34 rfl ?_
        refine g_callV_i (n := 1) (As := [.ref (ad 2)]) (wr := [(x0, oo 6 [.ref v, .ref h0, .ref a3, .ref a4, .ref a5, .int (iI lo)]), (ma, aM E 6 mq), (ad 0, oo 3 (fMa 0 .null (sd 0) (g 0))), (ad 1, oo 3 (fMa 1 (.ref (ad 0)) (sd 1) (g 1))), (ad 3, oo 3 (fMa 3 (.ref (ad 2)) (sd 3) (g 3))), (ad 4, oo 3 (fMa 4 (.ref (ad 3)) (sd 4) (g 4))), (ad 5, oo 3 (fMa 5 (.ref (ad 4)) (sd 5) (g 5))), (sd 0, aI E 4 (S 0)), (sd 1, aI E 4 (S 1)), (sd 2, aI E 4 (S 2)), (sd 3, aI E 4 (S 3)), (sd 4, aI E 4 (S 4)), (sd 5, aI E 4 (S 5))]) (C := RX1) [] (c_X1_isLast E v ma fo la M ti so ta go sl (ad 2) (sd 2) 2 (.ref (ad 1)) (g 2) (by omega) (by omega) (by omega) (by omega) (by omega)) [1, 5] [0, 2, 3, 4, 6, 7, 8, 9, 10, 11, 12, 13, 14] 0 rfl rfl gX6_set_X1_isLast rfl ⟨rfl, by decide +kernel⟩ ⟨by decide, by decide⟩ rfl rfl rfl rfl rfl (by decide) rfl (by decide) (by decide) (fun _ h => absurd h List.not_mem_nil) dX6_set_36 rfl (Nat.le_of_ble_eq_true rfl) ⟨by decide, by decide⟩ (fun r u p_23 => ?_)
        obtain ⟨rfl, rfl⟩ := p_23
        refine g_perm (ws1 := [(x0, oo 6 [.ref v, .ref h0, .ref a3, .ref a4, .ref a5, .int (iI lo)]), (v, oo 1 [.ref ma, .int (iI M), .ref fo, .ref la, .int (iI ti), .int (iI so), .int (iI ta), .int (iI go), .int (iI sl)]), (ma, aM E 6 mq), (ad 0, oo 3 (fMa 0 .null (sd 0) (g 0))), (ad 1, oo 3 (fMa 1 (.ref (ad 0)) (sd 1) (g 1))), (ad 2, oo 3 (fMa 2 (.ref (ad 1)) (sd 2) (g 2))), (ad 3, oo 3 (fMa 3 (.ref (ad 2)) (sd 3) (g 3))), (ad 4, oo 3 (fMa 4 (.ref (ad 3)) (sd 4) (g 4))), (ad 5, oo 3 (fMa 5 (.ref (ad 4)) (sd 5) (g 5))), (sd 0, aI E 4 (S 0)), (sd 1, aI E 4 (S 1)), (sd 2, aI E 4 (S 2)), (sd 3, aI E 4 (S 3)), (sd 4, aI E 4 (S 4)), (sd 5, aI E 4 (S 5))]) [0, 13, 1, 2, 3, 14, 4, 5, 6, 7, 8, 9, 10, 11, 12] rfl (by decide) rfl ?_
        refine g_if_eq_b (tgt := 44) dX6_set_39 rfl (fun c_24 => ?_) (fun c_24 => ?_)
        · refine g_iconst dX6_set_42 ?_
          exact g_iret hRet dX6_set_43 rfl ⟨(-1), S, (by unfold sp_set; rw [if_pos (by omega)]; exact ⟨rfl, rfl⟩), rfl, rfl⟩
        · refine g_iload_n 3 dX6_set_44 rfl rfl ?_
          refine g_iconst dX6_set_45 ?_
          refine g_icmp_ne (tgt := 61) (by unfold R32; omega) (by unfold R32; omega) dX6_set_46 rfl (fun c_25 => ?_) (fun c_25 => ?_)
          · refine g_aload 0 dX6_set_49 rfl ?_
            refine g_get (v := .int (iI ((g 2) 0))) (C := RX3) (T := TX3) (N := 14) 5 3 (fun _ h => List.mem_cons_of_mem _ (List.mem_append_left _ (List.mem_append_right _ h))) (List.mem_of_getElem? (i := 2) rfl) rfl rfl (by decide) rfl rfl dX6_set_51 ?_
            refine g_iload_n 4 dX6_set_54 rfl rfl ?_
            refine g_icmp_le (tgt := 61) (by have q0 := hgk 0 (by omega) (by omega); have q1 := hgk 1 (by omega) (by omega); have q2 := hgk 2 (by omega) (by omega); have q3 := hgk 3 (by omega) (by omega); have q4 := hgk 4 (by omega) (by omega); have q5 := hgk 5 (by omega) (by omega); unfold mOk at q0 q1 q2 q3 q4 q5; unfold R32; omega) (by have q0 := hgk 0 (by omega) (by omega); have q1 := hgk 1 (by omega) (by omega); have q2 := hgk 2 (by omega) (by omega); have q3 := hgk 3 (by omega) (by omega); have q4 := hgk 4 (by omega) (by omega); have q5 := hgk 5 (by omega) (by omega); unfold mOk at q0 q1 q2 q3 q4 q5; unfold R32; omega) dX6_set_55 rfl (fun hgv => ?_) (fun hgv => ?_)
            · refine g_aload 0 dX6_set_61 rfl ?_
              refine g_iload_n 3 dX6_set_63 rfl rfl ?_
              refine g_iload_n 4 dX6_set_64 rfl rfl ?_
              refine g_callV_i (n := 2) (As := [.int (iI what), .int (iI w)]) (wr := [(x0, oo 6 [.ref v, .ref h0, .ref a3, .ref a4, .ref a5, .int (iI lo)]), (v, oo 1 [.ref ma, .int (iI M), .ref fo, .ref la, .int (iI ti), .int (iI so), .int (iI ta), .int (iI go), .int (iI sl)]), (ma, aM E 6 mq), (ad 0, oo 3 (fMa 0 .null (sd 0) (g 0))), (ad 1, oo 3 (fMa 1 (.ref (ad 0)) (sd 1) (g 1))), (ad 3, oo 3 (fMa 3 (.ref (ad 2)) (sd 3) (g 3))), (ad 4, oo 3 (fMa 4 (.ref (ad 3)) (sd 4) (g 4))), (ad 5, oo 3 (fMa 5 (.ref (ad 4)) (sd 5) (g 5))), (sd 0, aI E 4 (S 0)), (sd 1, aI E 4 (S 1)), (sd 3, aI E 4 (S 3)), (sd 4, aI E 4 (S 4)), (sd 5, aI E 4 (S 5))]) (C := RX3) [] (c_X3_put E (ad 2) (sd 2) 2 (.ref (ad 1)) (g 2) (S 2) what w t3 t4 (by omega) (by omega) (by omega)) [5, 11] [0, 1, 2, 3, 4, 6, 7, 8, 9, 10, 12, 13, 14] 0 rfl rfl gX6_set_X3_put rfl ⟨rfl, by decide +kernel⟩ ⟨by decide, by decide⟩ rfl rfl rfl rfl rfl (by decide) rfl (by decide) (by decide) (fun _ h => h) dX6_set_65 rfl (Nat.le_of_ble_eq_true rfl) ⟨by decide, by decide⟩ (fun r u p_26 => ?_)
              obtain ⟨rfl, rfl⟩ := p_26
              refine g_perm (ws1 := [(x0, oo 6 [.ref v, .ref h0, .ref a3, .ref a4, .ref a5, .int (iI lo)]), (v, oo 1 [.ref ma, .int (iI M), .ref fo, .ref la, .int (iI ti), .int (iI so), .int (iI ta), .int (iI go), .int (iI sl)]), (ma, aM E 6 mq), (ad 0, oo 3 (fMa 0 .null (sd 0) (g 0))), (ad 1, oo 3 (fMa 1 (.ref (ad 0)) (sd 1) (g 1))), (ad 2, oo 3 (fMa 2 (.ref (ad 1)) (sd 2) (g 2))), (ad 3, oo 3 (fMa 3 (.ref (ad 2)) (sd 3) (g 3))), (ad 4, oo 3 (fMa 4 (.ref (ad 3)) (sd 4) (g 4))), (ad 5, oo 3 (fMa 5 (.ref (ad 4)) (sd 5) (g 5))), (sd 0, aI E 4 (S 0)), (sd 1, aI E 4 (S 1)), (sd 2, aI E 4 (up (S 2) what w)), (sd 3, aI E 4 (S 3)), (sd 4, aI E 4 (S 4)), (sd 5, aI E 4 (S 5))]) [0, 1, 2, 3, 4, 13, 5, 6, 7, 8, 9, 14, 10, 11, 12] rfl (by decide) rfl ?_
              exact g_iret hRet dX6_set_68 rfl ⟨((S 2) what), (ug S 2 (up (S 2) what w)), (by unfold sp_set; rw [hik.1, if_neg (by omega), if_neg (by omega)]; exact ⟨rfl, rfl⟩), rfl, rfl⟩
            · refine g_bipush dX6_set_58 rfl ?_
              exact g_iret hRet dX6_set_60 rfl ⟨(-2), S, (by unfold sp_set; rw [hik.1, if_neg (by omega), if_pos (by omega)]; exact ⟨rfl, rfl⟩), rfl, rfl⟩
          · exact absurd c_22 (by assumption)
      · refine g_iload_n 3 dX6_set_44 rfl rfl ?_
        refine g_iconst dX6_set_45 ?_
        refine g_icmp_ne (tgt := 61) (by unfold R32; omega) (by unfold R32; omega) dX6_set_46 rfl (fun c_27 => ?_) (fun c_27 => ?_)
        · exact absurd (by assumption) c_22
        · refine g_aload 0 dX6_set_61 rfl ?_
          refine g_iload_n 3 dX6_set_63 rfl rfl ?_
          refine g_iload_n 4 dX6_set_64 rfl rfl ?_
          refine g_callV_i (n := 2) (As := [.int (iI what), .int (iI w)]) (wr := [(x0, oo 6 [.ref v, .ref h0, .ref a3, .ref a4, .ref a5, .int (iI lo)]), (v, oo 1 [.ref ma, .int (iI M), .ref fo, .ref la, .int (iI ti), .int (iI so), .int (iI ta), .int (iI go), .int (iI sl)]), (ma, aM E 6 mq), (ad 0, oo 3 (fMa 0 .null (sd 0) (g 0))), (ad 1, oo 3 (fMa 1 (.ref (ad 0)) (sd 1) (g 1))), (ad 3, oo 3 (fMa 3 (.ref (ad 2)) (sd 3) (g 3))), (ad 4, oo 3 (fMa 4 (.ref (ad 3)) (sd 4) (g 4))), (ad 5, oo 3 (fMa 5 (.ref (ad 4)) (sd 5) (g 5))), (sd 0, aI E 4 (S 0)), (sd 1, aI E 4 (S 1)), (sd 3, aI E 4 (S 3)), (sd 4, aI E 4 (S 4)), (sd 5, aI E 4 (S 5))]) (C := RX3) [] (c_X3_put E (ad 2) (sd 2) 2 (.ref (ad 1)) (g 2) (S 2) what w t3 t4 (by omega) (by omega) (by omega)) [5, 11] [0, 1, 2, 3, 4, 6, 7, 8, 9, 10, 12, 13, 14] 0 rfl rfl gX6_set_X3_put rfl ⟨rfl, by decide +kernel⟩ ⟨by decide, by decide⟩ rfl rfl rfl rfl rfl (by decide) rfl (by decide) (by decide) (fun _ h => h) dX6_set_65 rfl (Nat.le_of_ble_eq_true rfl) ⟨by decide, by decide⟩ (fun r u p_28 => ?_)
          obtain ⟨rfl, rfl⟩ := p_28
          refine g_perm (ws1 := [(x0, oo 6 [.ref v, .ref h0, .ref a3, .ref a4, .ref a5, .int (iI lo)]), (v, oo 1 [.ref ma, .int (iI M), .ref fo, .ref la, .int (iI ti), .int (iI so), .int (iI ta), .int (iI go), .int (iI sl)]), (ma, aM E 6 mq), (ad 0, oo 3 (fMa 0 .null (sd 0) (g 0))), (ad 1, oo 3 (fMa 1 (.ref (ad 0)) (sd 1) (g 1))), (ad 2, oo 3 (fMa 2 (.ref (ad 1)) (sd 2) (g 2))), (ad 3, oo 3 (fMa 3 (.ref (ad 2)) (sd 3) (g 3))), (ad 4, oo 3 (fMa 4 (.ref (ad 3)) (sd 4) (g 4))), (ad 5, oo 3 (fMa 5 (.ref (ad 4)) (sd 5) (g 5))), (sd 0, aI E 4 (S 0)), (sd 1, aI E 4 (S 1)), (sd 2, aI E 4 (up (S 2) what w)), (sd 3, aI E 4 (S 3)), (sd 4, aI E 4 (S 4)), (sd 5, aI E 4 (S 5))]) [0, 1, 2, 3, 4, 13, 5, 6, 7, 8, 9, 14, 10, 11, 12] rfl (by decide) rfl ?_
          exact g_iret hRet dX6_set_68 rfl ⟨((S 2) what), (ug S 2 (up (S 2) what w)), (by unfold sp_set; rw [hik.1, if_neg (by omega), if_neg (by omega)]; exact ⟨rfl, rfl⟩), rfl, rfl⟩
    · refine g_iconst dX6_set_42 ?_
      exact g_iret hRet dX6_set_43 rfl ⟨(-1), S, (by unfold sp_set; rw [if_pos (by omega)]; exact ⟨rfl, rfl⟩), rfl, rfl⟩
  · refine g_as (st1 := [.ref (ad 3)]) ?_ rfl rfl (by rw [if_pos (by omega), hik.1]; rfl)
    refine g_astore (lv1 := [(4, .ref (ad 3)), (0, .ref x0), (1, .int (iI i)), (2, .int (iI what)), (3, .int (iI w))]) dX6_set_8 (by decide) rfl ?_
    refine g_aload 0 dX6_set_10 rfl ?_
    refine g_ifnull dX6_set_12 ?_
    refine g_aload 0 dX6_set_15 rfl ?_
    refine g_iload_n 3 dX6_set_17 rfl rfl ?_
    refine g_iload_n 4 dX6_set_18 rfl rfl ?_
    refine g_callV_i (n := 2) (As := [.int (iI what), .int (iI w)]) (wr := [(x0, oo 6 [.ref v, .ref h0, .ref a3, .ref a4, .ref a5, .int (iI lo)]), (v, oo 1 [.ref ma, .int (iI M), .ref fo, .ref la, .int (iI ti), .int (iI so), .int (iI ta), .int (iI go), .int (iI sl)]), (ma, aM E 6 mq), (ad 0, oo 3 (fMa 0 .null (sd 0) (g 0))), (ad 1, oo 3 (fMa 1 (.ref (ad 0)) (sd 1) (g 1))), (ad 2, oo 3 (fMa 2 (.ref (ad 1)) (sd 2) (g 2))), (ad 4, oo 3 (fMa 4 (.ref (ad 3)) (sd 4) (g 4))), (ad 5, oo 3 (fMa 5 (.ref (ad 4)) (sd 5) (g 5))), (sd 0, aI E 4 (S 0)), (sd 1, aI E 4 (S 1)), (sd 2, aI E 4 (S 2)), (sd 3, aI E 4 (S 3)), (sd 4, aI E 4 (S 4)), (sd 5, aI E 4 (S 5))]) (C := RX3) [] (c_X3_mayBeSet E (ad 3) (sd 3) 3 (.ref (ad 2)) (g 3) what w t3 t4 (by omega) (by omega)) [6] [0, 1, 2, 3, 4, 5, 7, 8, 9, 10, 11, 12, 13, 14] 0 rfl rfl gX6_set_X3_mayBeSet rfl ⟨rfl, by decide +kernel⟩ ⟨by decide, by decide⟩ rfl rfl rfl rfl rfl (by decide) rfl (by decide) (by decide) (fun _ h => h) dX6_set_19 rfl (Nat.le_of_ble_eq_true rfl) ⟨by decide, by decide⟩ (fun r u p_29 => ?_)
    obtain ⟨rfl, rfl⟩ := p_29
    refine g_perm (ws1 := [(x0, oo 6 [.ref v, .ref h0, .ref a3, .ref a4, .ref a5, .int (iI lo)]), (v, oo 1 [.ref ma, .int (iI M), .ref fo, .ref la, .int (iI ti), .int (iI so), .int (iI ta), .int (iI go), .int (iI sl)]), (ma, aM E 6 mq), (ad 0, oo 3 (fMa 0 .null (sd 0) (g 0))), (ad 1, oo 3 (fMa 1 (.ref (ad 0)) (sd 1) (g 1))), (ad 2, oo 3 (fMa 2 (.ref (ad 1)) (sd 2) (g 2))), (ad 3, oo 3 (fMa 3 (.ref (ad 2)) (sd 3) (g 3))), (ad 4, oo 3 (fMa 4 (.ref (ad 3)) (sd 4) (g 4))), (ad 5, oo 3 (fMa 5 (.ref (ad 4)) (sd 5) (g 5))), (sd 0, aI E 4 (S 0)), (sd 1, aI E 4 (S 1)), (sd 2, aI E 4 (S 2)), (sd 3, aI E 4 (S 3)), (sd 4, aI E 4 (S 4)), (sd 5, aI E 4 (S 5))]) [0, 1, 2, 3, 4, 5, 14, 6, 7, 8, 9, 10, 11, 12, 13] rfl (by decide) rfl ?_
    refine g_if_eq_b (tgt := 42) dX6_set_22 rfl (fun c_30 => ?_) (fun c_30 => ?_)
    · refine g_iload_n 3 dX6_set_25 rfl rfl ?_
      refine g_iconst dX6_set_26 ?_
      refine g_icmp_ne (tgt := 44) (by unfold R32; omega) (by unfold R32; omega) dX6_set_27 rfl (fun c_31 => ?_) (fun c_31 => ?_)
      · refine g_aload_n 1 dX6_set_30 rfl rfl ?_
        refine g_get (C := RX6) (T := TX6) (N := 6) 0 0 (fun _ h => List.mem_cons_of_mem _ (List.mem_append_left _ (List.mem_append_left _ (List.mem_append_right _ h)))) (List.mem_of_getElem? (i := 1) rfl) rfl rfl (by decide) rfl rfl dX6_set_31 ?_
        refine g_aload 0 dX6_set_34 rfl ?_
        refine g_callV_i (n := 1) (As := [.ref (ad 3)]) (wr := [(x0, oo 6 [.ref v, .ref h0, .ref a3, .ref a4, .ref a5, .int (iI lo)]), (ma, aM E 6 mq), (ad 0, oo 3 (fMa 0 .null (sd 0) (g 0))), (ad 1, oo 3 (fMa 1 (.ref (ad 0)) (sd 1) (g 1))), (ad 2, oo 3 (fMa 2 (.ref (ad 1)) (sd 2) (g 2))), (ad 4, oo 3 (fMa 4 (.ref (ad 3)) (sd 4) (g 4))), (ad 5, oo 3 (fMa 5 (.ref (ad 4)) (sd 5) (g 5))), (sd 0, aI E 4 (S 0)), (sd 1, aI E 4 (S 1)), (sd 2, aI E 4 (S 2)), (sd 3, aI E 4 (S 3)), (sd 4, aI E 4 (S 4)), (sd 5, aI E 4 (S 5))]) (C := RX1) [] (c_X1_isLast E v ma fo la M ti so ta go sl (ad 3) (sd 3) 3 (.ref (ad 2)) (g 3) (by omega) (by omega) (by omega) (by omega) (by omega)) [1, 6] [0, 2, 3, 4, 5, 7, 8, 9, 10, 11, 12, 13, 14] 0 rfl rfl gX6_set_X1_isLast rfl ⟨rfl, by decide +kernel⟩ ⟨by decide, by decide⟩ rfl rfl rfl rfl rfl (by decide) rfl (by decide) (by decide) (fun _ h => absurd h List.not_mem_nil) dX6_set_36 rfl (Nat.le_of_ble_eq_true rfl) ⟨by decide, by decide⟩ (fun r u p_32 => ?_)
        obtain ⟨rfl, rfl⟩ := p_32
        refine g_perm (ws1 := [(x0, oo 6 [.ref v, .ref h0, .ref a3, .ref a4, .ref a5, .int (iI lo)]), (v, oo 1 [.ref ma, .int (iI M), .ref fo, .ref la, .int (iI ti), .int (iI so), .int (iI ta), .int (iI go), .int (iI sl)]), (ma, aM E 6 mq), (ad 0, oo 3 (fMa 0 .null (sd 0) (g 0))), (ad 1, oo 3 (fMa 1 (.ref (ad 0)) (sd 1) (g 1))), (ad 2, oo 3 (fMa 2 (.ref (ad 1)) (sd 2) (g 2))), (ad 3, oo 3 (fMa 3 (.ref (ad 2)) (sd 3) (g 3))), (ad 4, oo 3 (fMa 4 (.ref (ad 3)) (sd 4) (g 4))), (ad 5, oo 3 (fMa 5 (.ref (ad 4)) (sd 5) (g 5))), (sd 0, aI E 4 (S 0)), (sd 1, aI E 4 (S 1)), (sd 2, aI E 4 (S 2)), (sd 3, aI E 4 (S 3)), (sd 4, aI E 4 (S 4)), (sd 5, aI E 4 (S 5))]) [0, 13, 1, 2, 3, 4, 14, 5, 6, 7, 8, 9, 10, 11, 12] rfl (by decide) rfl ?_
        refine g_if_eq_b (tgt := 44) dX6_set_39 rfl (fun c_33 => ?_) (fun c_33 => ?_)
        · refine g_iconst dX6_set_42 ?_
          exact g_iret hRet dX6_set_43 rfl ⟨(-1), S, (by unfold sp_set; rw [if_pos (by omega)]; exact ⟨rfl, rfl⟩), rfl, rfl⟩
        · refine g_iload_n 3 dX6_set_44 rfl rfl ?_
          refine g_iconst dX6_set_45 ?_
          refine g_icmp_ne (tgt := 61) (by unfold R32; omega) (by unfold R32; omega) dX6_set_46 rfl (fun c_34 => ?_) (fun c_34 => ?_)
          · refine g_aload 0 dX6_set_49 rfl ?_
            refine g_get (v := .int (iI ((g 3) 0))) (C := RX3) (T := TX3) (N := 14) 6 3 (fun _ h => List.mem_cons_of_mem _ (List.mem_append_left _ (List.mem_append_right _ h))) (List.mem_of_getElem? (i := 2) rfl) rfl rfl (by decide) rfl rfl dX6_set_51 ?_
            refine g_iload_n 4 dX6_set_54 rfl rfl ?_
            refine g_icmp_le (tgt := 61) (by have q0 := hgk 0 (by omega) (by omega); have q1 := hgk 1 (by omega) (by omega); have q2 := hgk 2 (by omega) (by omega); have q3 := hgk 3 (by omega) (by omega); have q4 := hgk 4 (by omega) (by omega); have q5 := hgk 5 (by omega) (by omega); unfold mOk at q0 q1 q2 q3 q4 q5; unfold R32; omega) (by have q0 := hgk 0 (by omega) (by omega); have q1 := hgk 1 (by omega) (by omega); have q2 := hgk 2 (by omega) (by omega); have q3 := hgk 3 (by omega) (by omega); have q4 := hgk 4 (by omega) (by omega); have q5 := hgk 5 (by omega) (by omega); unfold mOk at q0 q1 q2 q3 q4 q5; unfold R32; omega) dX6_set_55 rfl (fun hgv => ?_) (fun hgv => ?_)
            · refine g_aload 0 dX6_set_61 rfl ?_
              refine g_iload_n 3 dX6_set_63 rfl rfl ?_
              refine g_iload_n 4 dX6_set_64 rfl rfl ?_
              refine g_callV_i (n := 2) (As := [.int (iI what), .int (iI w)]) (wr := [(x0, oo 6 [.ref v, .ref h0, .ref a3, .ref a4, .ref a5, .int (iI lo)]), (v, oo 1 [.ref ma, .int (iI M), .ref fo, .ref la, .int (iI ti), .int (iI so), .int (iI ta), .int (iI go), .int (iI sl)]), (ma, aM E 6 mq), (ad 0, oo 3 (fMa 0 .null (sd 0) (g 0))), (ad 1, oo 3 (fMa 1 (.ref (ad 0)) (sd 1) (g 1))), (ad 2, oo 3 (fMa 2 (.ref (ad 1)) (sd 2) (g 2))), (ad 4, oo 3 (fMa 4 (.ref (ad 3)) (sd 4) (g 4))), (ad 5, oo 3 (fMa 5 (.ref (ad 4)) (sd 5) (g 5))), (sd 0, aI E 4 (S 0)), (sd 1, aI E 4 (S 1)), (sd 2, aI E 4 (S 2)), (sd 4, aI E 4 (S 4)), (sd 5, aI E 4 (S 5))]) (C := RX3) [] (c_X3_put E (ad 3) (sd 3) 3 (.ref (ad 2)) (g 3) (S 3) what w t3 t4 (by omega) (by omega) (by omega)) [6, 12] [0, 1, 2, 3, 4, 5, 7, 8, 9, 10, 11, 13, 14] 0 rfl rfl gX6_set_X3_put rfl ⟨rfl, by decide +kernel⟩ ⟨by decide, by decide⟩ rfl rfl rfl rfl rfl (by decide) rfl (by decide) (by decide) (fun _ h => h) dX6_set_65 rfl (Nat.le_of_ble_eq_true rfl) ⟨by decide, by decide⟩ (fun r u p_35 => ?_)
              obtain ⟨rfl, rfl⟩ := p_35
              refine g_perm (ws1 := [(x0, oo 6 [.ref v, .ref h0, .ref a3, .ref a4, .ref a5, .int (iI lo)]), (v, oo 1 [.ref ma, .int (iI M), .ref fo, .ref la, .int (iI ti), .int (iI so), .int (iI ta), .int (iI go), .int (iI sl)]), (ma, aM E 6 mq), (ad 0, oo 3 (fMa 0 .null (sd 0) (g 0))), (ad 1, oo 3 (fMa 1 (.ref (ad 0)) (sd 1) (g 1))), (ad 2, oo 3 (fMa 2 (.ref (ad 1)) (sd 2) (g 2))), (ad 3, oo 3 (fMa 3 (.ref (ad 2)) (sd 3) (g 3))), (ad 4, oo 3 (fMa 4 (.ref (ad 3)) (sd 4) (g 4))), (ad 5, oo 3 (fMa 5 (.ref (ad 4)) (sd 5) (g 5))), (sd 0, aI E 4 (S 0)), (sd 1, aI E 4 (S 1)), (sd 2, aI E 4 (S 2)), (sd 3, aI E 4 (up (S 3) what w)), (sd 4, aI E 4 (S 4)), (sd 5, aI E 4 (S 5))]) [0, 1, 2, 3, 4, 5, 13, 6, 7, 8, 9, 10, 14, 11, 12] rfl (by decide) rfl ?_
              exact g_iret hRet dX6_set_68 rfl ⟨((S 3) what), (ug S 3 (up (S 3) what w)), (by unfold sp_set; rw [hik.1, if_neg (by omega), if_neg (by omega)]; exact ⟨rfl, rfl⟩), rfl, rfl⟩
            · refine g_bipush dX6_set_58 rfl ?_
              exact g_iret hRet dX6_set_60 rfl ⟨(-2), S, (by unfold sp_set; rw [hik.1, if_neg (by omega), if_pos (by omega)]; exact ⟨rfl, rfl⟩), rfl, rfl⟩
          · exact absurd c_31 (by assumption)
      · refine g_iload_n 3 dX6_set_44 rfl rfl ?_
        refine g_iconst dX6_set_45 ?_
        refine g_icmp_ne (tgt := 61) (by unfold R32; omega) (by unfold R32; omega) dX6_set_46 rfl (fun c_36 => ?_) (fun c_36 => ?_)
        · exact absurd (by assumption) c_31
        · refine g_aload 0 dX6_set_61 rfl ?_
          refine g_iload_n 3 dX6_set_63 rfl rfl ?_
          refine g_iload_n 4 dX6_set_64 rfl rfl ?_
          refine g_callV_i (n := 2) (As := [.int (iI what), .int (iI w)]) (wr := [(x0, oo 6 [.ref v, .ref h0, .ref a3, .ref a4, .ref a5, .int (iI lo)]), (v, oo 1 [.ref ma, .int (iI M), .ref fo, .ref la, .int (iI ti), .int (iI so), .int (iI ta), .int (iI go), .int (iI sl)]), (ma, aM E 6 mq), (ad 0, oo 3 (fMa 0 .null (sd 0) (g 0))), (ad 1, oo 3 (fMa 1 (.ref (ad 0)) (sd 1) (g 1))), (ad 2, oo 3 (fMa 2 (.ref (ad 1)) (sd 2) (g 2))), (ad 4, oo 3 (fMa 4 (.ref (ad 3)) (sd 4) (g 4))), (ad 5, oo 3 (fMa 5 (.ref (ad 4)) (sd 5) (g 5))), (sd 0, aI E 4 (S 0)), (sd 1, aI E 4 (S 1)), (sd 2, aI E 4 (S 2)), (sd 4, aI E 4 (S 4)), (sd 5, aI E 4 (S 5))]) (C := RX3) [] (c_X3_put E (ad 3) (sd 3) 3 (.ref (ad 2)) (g 3) (S 3) what w t3 t4 (by omega) (by omega) (by omega)) [6, 12] [0, 1, 2, 3, 4, 5, 7, 8, 9, 10, 11, 13, 14] 0 rfl rfl gX6_set_X3_put rfl ⟨rfl, by decide +kernel⟩ ⟨by decide, by decide⟩ rfl rfl rfl rfl rfl (by decide) rfl (by decide) (by decide) (fun _ h => h) dX6_set_65 rfl (Nat.le_of_ble_eq_true rfl) ⟨by decide, by decide⟩ (fun r u p_37 => ?_)
          obtain ⟨rfl, rfl⟩ := p_37
          refine g_perm (ws1 := [(x0, oo 6 [.ref v, .ref h0, .ref a3, .ref a4, .ref a5, .int (iI lo)]), (v, oo 1 [.ref ma, .int (iI M), .ref fo, .ref la, .int (iI ti), .int (iI so), .int (iI ta), .int (iI go), .int (iI sl)]), (ma, aM E 6 mq), (ad 0, oo 3 (fMa 0 .null (sd 0) (g 0))), (ad 1, oo 3 (fMa 1 (.ref (ad 0)) (sd 1) (g 1))), (ad 2, oo 3 (fMa 2 (.ref (ad 1)) (sd 2) (g 2))), (ad 3, oo 3 (fMa 3 (.ref (ad 2)) (sd 3) (g 3))), (ad 4, oo 3 (fMa 4 (.ref (ad 3)) (sd 4) (g 4))), (ad 5, oo 3 (fMa 5 (.ref (ad 4)) (sd 5) (g 5))), (sd 0, aI E 4 (S 0)), (sd 1, aI E 4 (S 1)), (sd 2, aI E 4 (S 2)), (sd 3, aI E 4 (up (S 3) what w)), (sd 4, aI E 4 (S 4)), (sd 5, aI E 4 (S 5))]) [0, 1, 2, 3, 4, 5, 13, 6, 7, 8, 9, 10, 14, 11, 12] rfl (by decide) rfl ?_
          exact g_iret hRet dX6_set_68 rfl ⟨((S 3) what), (ug S 3 (up (S 3) what w)), (by unfold sp_set; rw [hik.1, if_neg (by omega), if_neg (by omega)]; exact ⟨rfl, rfl⟩), rfl, rfl⟩
    · refine g_iconst dX6_set_42 ?_
      exact g_iret hRet dX6_set_43 rfl ⟨(-1), S, (by unfold sp_set; rw [if_pos (by omega)]; exact ⟨rfl, rfl⟩), rfl, rfl⟩
  · refine g_as (st1 := [.ref (ad 4)]) ?_ rfl rfl (by rw [if_pos (by omega), hik.1]; rfl)
    refine g_astore (lv1 := [(4, .ref (ad 4)), (0, .ref x0), (1, .int (iI i)), (2, .int (iI what)), (3, .int (iI w))]) dX6_set_8 (by decide) rfl ?_
    refine g_aload 0 dX6_set_10 rfl ?_
    refine g_ifnull dX6_set_12 ?_
    refine g_aload 0 dX6_set_15 rfl ?_
    refine g_iload_n 3 dX6_set_17 rfl rfl ?_
    refine g_iload_n 4 dX6_set_18 rfl rfl ?_
    refine g_callV_i (n := 2) (As := [.int (iI what), .int (iI w)]) (wr := [(x0, oo 6 [.ref v, .ref h0, .ref a3, .ref a4, .ref a5, .int (iI lo)]), (v, oo 1 [.ref ma, .int (iI M), .ref fo, .ref la, .int (iI ti), .int (iI so), .int (iI ta), .int (iI go), .int (iI sl)]), (ma, aM E 6 mq), (ad 0, oo 3 (fMa 0 .null (sd 0) (g 0))), (ad 1, oo 3 (fMa 1 (.ref (ad 0)) (sd 1) (g 1))), (ad 2, oo 3 (fMa 2 (.ref (ad 1)) (sd 2) (g 2))), (ad 3, oo 3 (fMa 3 (.ref (ad 2)) (sd 3) (g 3))), (ad 5, oo 3 (fMa 5 (.ref (ad 4)) (sd 5) (g 5))), (sd 0, aI E 4 (S 0)), (sd 1, aI E 4 (S 1)), (sd 2, aI E 4 (S 2)), (sd 3, aI E 4 (S 3)), (sd 4, aI E 4 (S 4)), (sd 5, aI E 4 (S 5))]) (C := RX3) [] (c_X3_mayBeSet E (ad 4) (sd 4) 4 (.ref (ad 3)) (g 4) what w t3 t4 (by omega) (by omega)) [7] [0, 1, 2, 3, 4, 5, 6, 8, 9, 10, 11, 12, 13, 14] 0 rfl rfl gX6_set_X3_mayBeSet rfl ⟨rfl, by decide +kernel⟩ ⟨by decide, by decide⟩ rfl rfl rfl rfl rfl (by decide) rfl (by decide) (by decide) (fun _ h => h) dX6_set_19 rfl (Nat.le_of_ble_eq_true rfl) ⟨by decide, by decide⟩ (fun r u p_38 => ?_)
    obtain ⟨rfl, rfl⟩ := p_38
    refine g_perm (ws1 := [(x0, oo 6 [.ref v, .ref h0, .ref a3, .ref a4, .ref a5, .int (iI lo)]), (v, oo 1 [.ref ma, .int (iI M), .ref fo, .ref la, .int (iI ti), .int (iI so), .int (iI ta), .int (iI go), .int (iI sl)]), (ma, aM E 6 mq), (ad 0, oo 3 (fMa 0 .null (sd 0) (g 0))), (ad 1, oo 3 (fMa 1 (.ref (ad 0)) (sd 1) (g 1))), (ad 2, oo 3 (fMa 2 (.ref (ad 1)) (sd 2) (g 2))), (ad 3, oo 3 (fMa 3 (.ref (ad 2)) (sd 3) (g 3))), (ad 4, oo 3 (fMa 4 (.ref (ad 3)) (sd 4) (g 4))), (ad 5, oo 3 (fMa 5 (.ref (ad 4)) (sd 5) (g 5))), (sd 0, aI E 4 (S 0)), (sd 1, aI E 4 (S 1)), (sd 2, aI E 4 (S 2)), (sd 3, aI E 4 (S 3)), (sd 4, aI E 4 (S 4)), (sd 5, aI E 4 (S 5))]) [0, 1, 2, 3, 4, 5, 6, 14, 7, 8, 9, 10, 11, 12, 13] rfl (by decide) rfl ?_
    refine g_if_eq_b (tgt := 42) dX6_set_22 rfl (fun c_39 => ?_) (fun c_39 => ?_)
    · refine g_iload_n 3 dX6_set_25 rfl rfl ?_
      refine g_iconst dX6_set_26 ?_
      refine g_icmp_ne (tgt := 44) (by unfold R32; omega) (by unfold R32; omega) dX6_set_27 rfl (fun c_40 => ?_) (fun c_40 => ?_)
      · refine g_aload_n 1 dX6_set_30 rfl rfl ?_
        refine g_get (C := RX6) (T := TX6) (N := 6) 0 0 (fun _ h => List.mem_cons_of_mem _ (List.mem_append_left _ (List.mem_append_left _ (List.mem_append_right _ h)))) (List.mem_of_getElem? (i := 1) rfl) rfl rfl (by decide) rfl rfl dX6_set_31 ?_
        refine g_aload 0 dX6_set_34 rfl ?_
        refine g_callV_i (n := 1) (As := [.ref (ad 4)]) (wr := [(x0, oo 6 [.ref v, .ref h0, .ref a3, .ref a4, .ref a5, .int (iI lo)]), (ma, aM E 6 mq), (ad 0, oo 3 (fMa 0 .null (sd 0) (g 0))), (ad 1, oo 3 (fMa 1 (.ref (ad 0)) (sd 1) (g 1))), (ad 2, oo 3 (fMa 2 (.ref (ad 1)) (sd 2) (g 2))), (ad 3, oo 3 (fMa 3 (.ref (ad 2)) (sd 3) (g 3))), (ad 5, oo 3 (fMa 5 (.ref (ad 4)) (sd 5) (g 5))), (sd 0, aI E 4 (S 0)), (sd 1, aI E 4 (S 1)), (sd 2, aI E 4 (S 2)), (sd 3, aI E 4 (S 3)), (sd 4, aI E 4 (S 4)), (sd 5, aI E 4 (S 5))]) (C := RX1) [] (c_X1_isLast E v ma fo la M ti so ta go sl (ad 4) (sd 4) 4 (.ref (ad 3)) (g 4) (by omega) (by omega) (by omega) (by omega) (by omega)) [1, 7] [0, 2, 3, 4, 5, 6, 8, 9, 10, 11, 12, 13, 14] 0 rfl rfl gX6_set_X1_isLast rfl ⟨rfl, by decide +kernel⟩ ⟨by decide, by decide⟩ rfl rfl rfl rfl rfl (by decide) rfl (by decide) (by decide) (fun _ h => absurd h List.not_mem_nil) dX6_set_36 rfl (Nat.le_of_ble_eq_true rfl) ⟨by decide, by decide⟩ (fun r u p_41 => ?_)
        obtain ⟨rfl, rfl⟩ := p_41
        refine g_perm (ws1 := [(x0, oo 6 [.ref v, .ref h0, .ref a3, .ref a4, .ref a5, .int (iI lo)]), (v, oo 1 [.ref ma, .int (iI M), .ref fo, .ref la, .int (iI ti), .int (iI so), .int (iI ta), .int (iI go), .int (iI sl)]), (ma, aM E 6 mq), (ad 0, oo 3 (fMa 0 .null (sd 0) (g 0))), (ad 1, oo 3 (fMa 1 (.ref (ad 0)) (sd 1) (g 1))), (ad 2, oo 3 (fMa 2 (.ref (ad 1)) (sd 2) (g 2))), (ad 3, oo 3 (fMa 3 (.ref (ad 2)) (sd 3) (g 3))), (ad 4, oo 3 (fMa 4 (.ref (ad 3)) (sd 4) (g 4))), (ad 5, oo 3 (fMa 5 (.ref (ad 4)) (sd 5) (g 5))), (sd 0, aI E 4 (S 0)), (sd 1, aI E 4 (S 1)), (sd 2, aI E 4 (S 2)), (sd 3, aI E 4 (S 3)), (sd 4, aI E 4 (S 4)), (sd 5, aI E 4 (S 5))]) [0, 13, 1, 2, 3, 4, 5, 14, 6, 7, 8, 9, 10, 11, 12] rfl (by decide) rfl ?_
        refine g_if_eq_b (tgt := 44) dX6_set_39 rfl (fun c_42 => ?_) (fun c_42 => ?_)
        · refine g_iconst dX6_set_42 ?_
          exact g_iret hRet dX6_set_43 rfl ⟨(-1), S, (by unfold sp_set; rw [if_pos (by omega)]; exact ⟨rfl, rfl⟩), rfl, rfl⟩
        · refine g_iload_n 3 dX6_set_44 rfl rfl ?_
          refine g_iconst dX6_set_45 ?_
          refine g_icmp_ne (tgt := 61) (by unfold R32; omega) (by unfold R32; omega) dX6_set_46 rfl (fun c_43 => ?_) (fun c_43 => ?_)
          · refine g_aload 0 dX6_set_49 rfl ?_
            refine g_get (v := .int (iI ((g 4) 0))) (C := RX3) (T := TX3) (N := 14) 7 3 (fun _ h => List.mem_cons_of_mem _ (List.mem_append_left _ (List.mem_append_right _ h))) (List.mem_of_getElem? (i := 2) rfl) rfl rfl (by decide) rfl rfl dX6_set_51 ?_
            refine g_iload_n 4 dX6_set_54 rfl rfl ?_
            refine g_icmp_le (tgt := 61) (by have q0 := hgk 0 (by omega) (by omega); have q1 := hgk 1 (by omega) (by omega); have q2 := hgk 2 (by omega) (by omega); have q3 := hgk 3 (by omega) (by omega); have q4 := hgk 4 (by omega) (by omega); have q5 := hgk 5 (by omega) (by omega); unfold mOk at q0 q1 q2 q3 q4 q5; unfold R32; omega) (by have q0 := hgk 0 (by omega) (by omega); have q1 := hgk 1 (by omega) (by omega); have q2 := hgk 2 (by omega) (by omega); have q3 := hgk 3 (by omega) (by omega); have q4 := hgk 4 (by omega) (by omega); have q5 := hgk 5 (by omega) (by omega); unfold mOk at q0 q1 q2 q3 q4 q5; unfold R32; omega) dX6_set_55 rfl (fun hgv => ?_) (fun hgv => ?_)
            · refine g_aload 0 dX6_set_61 rfl ?_
              refine g_iload_n 3 dX6_set_63 rfl rfl ?_
              refine g_iload_n 4 dX6_set_64 rfl rfl ?_
              refine g_callV_i (n := 2) (As := [.int (iI what), .int (iI w)]) (wr := [(x0, oo 6 [.ref v, .ref h0, .ref a3, .ref a4, .ref a5, .int (iI lo)]), (v, oo 1 [.ref ma, .int (iI M), .ref fo, .ref la, .int (iI ti), .int (iI so), .int (iI ta), .int (iI go), .int (iI sl)]), (ma, aM E 6 mq), (ad 0, oo 3 (fMa 0 .null (sd 0) (g 0))), (ad 1, oo 3 (fMa 1 (.ref (ad 0)) (sd 1) (g 1))), (ad 2, oo 3 (fMa 2 (.ref (ad 1)) (sd 2) (g 2))), (ad 3, oo 3 (fMa 3 (.ref (ad 2)) (sd 3) (g 3))), (ad 5, oo 3 (fMa 5 (.ref (ad 4)) (sd 5) (g 5))), (sd 0, aI E 4 (S 0)), (sd 1, aI E 4 (S 1)), (sd 2, aI E 4 (S 2)), (sd 3, aI E 4 (S 3)), (sd 5, aI E 4 (S 5))]) (C := RX3) [] (c_X3_put E (ad 4) (sd 4) 4 (.ref (ad 3)) (g 4) (S 4) what w t3 t4 (by omega) (by omega) (by omega)) [7, 13] [0, 1, 2, 3, 4, 5, 6, 8, 9, 10, 11, 12, 14] 0 rfl rfl gX6_set_X3_put rfl ⟨rfl, by decide +kernel⟩ ⟨by decide, by decide⟩ rfl rfl rfl rfl rfl (by decide) rfl (by decide) (by decide) (fun _ h => h) dX6_set_65 rfl (Nat.le_of_ble_eq_true rfl) ⟨by decide, by decide⟩ (fun r u p_44 => ?_)
              obtain ⟨rfl, rfl⟩ := p_44
              refine g_perm (ws1 := [(x0, oo 6 [.ref v, .ref h0, .ref a3, .ref a4, .ref a5, .int (iI lo)]), (v, oo 1 [.ref ma, .int (iI M), .ref fo, .ref la, .int (iI ti), .int (iI so), .int (iI ta), .int (iI go), .int (iI sl)]), (ma, aM E 6 mq), (ad 0, oo 3 (fMa 0 .null (sd 0) (g 0))), (ad 1, oo 3 (fMa 1 (.ref (ad 0)) (sd 1) (g 1))), (ad 2, oo 3 (fMa 2 (.ref (ad 1)) (sd 2) (g 2))), (ad 3, oo 3 (fMa 3 (.ref (ad 2)) (sd 3) (g 3))), (ad 4, oo 3 (fMa 4 (.ref (ad 3)) (sd 4) (g 4))), (ad 5, oo 3 (fMa 5 (.ref (ad 4)) (sd 5) (g 5))), (sd 0, aI E 4 (S 0)), (sd 1, aI E 4 (S 1)), (sd 2, aI E 4 (S 2)), (sd 3, aI E 4 (S 3)), (sd 4, aI E 4 (up (S 4) what w)), (sd 5, aI E 4 (S 5))]) [0, 1, 2, 3, 4, 5, 6, 13, 7, 8, 9, 10, 11, 14, 12] rfl (by decide) rfl ?_
              exact g_iret hRet dX6_set_68 rfl ⟨((S 4) what), (ug S 4 (up (S 4) what w)), (by unfold sp_set; rw [hik.1, if_neg (by omega), if_neg (by omega)]; exact ⟨rfl, rfl⟩), rfl, rfl⟩
            · refine g_bipush dX6_set_58 rfl ?_
              exact g_iret hRet dX6_set_60 rfl ⟨(-2), S, (by unfold sp_set; rw [hik.1, if_neg (by omega), if_pos (by omega)]; exact ⟨rfl, rfl⟩), rfl, rfl⟩
          · exact absurd c_40 (by assumption)
      · refine g_iload_n 3 dX6_set_44 rfl rfl ?_
        refine g_iconst dX6_set_45 ?_
        refine g_icmp_ne (tgt := 61) (by unfold R32; omega) (by unfold R32; omega) dX6_set_46 rfl (fun c_45 => ?_) (fun c_45 => ?_)
        · exact absurd (by assumption) c_40
        · refine g_aload 0 dX6_set_61 rfl ?_
          refine g_iload_n 3 dX6_set_63 rfl rfl ?_
          refine g_iload_n 4 dX6_set_64 rfl rfl ?_
          refine g_callV_i (n := 2) (As := [.int (iI what), .int (iI w)]) (wr := [(x0, oo 6 [.ref v, .ref h0, .ref a3, .ref a4, .ref a5, .int (iI lo)]), (v, oo 1 [.ref ma, .int (iI M), .ref fo, .ref la, .int (iI ti), .int (iI so), .int (iI ta), .int (iI go), .int (iI sl)]), (ma, aM E 6 mq), (ad 0, oo 3 (fMa 0 .null (sd 0) (g 0))), (ad 1, oo 3 (fMa 1 (.ref (ad 0)) (sd 1) (g 1))), (ad 2, oo 3 (fMa 2 (.ref (ad 1)) (sd 2) (g 2))), (ad 3, oo 3 (fMa 3 (.ref (ad 2)) (sd 3) (g 3))), (ad 5, oo 3 (fMa 5 (.ref (ad 4)) (sd 5) (g 5))), (sd 0, aI E 4 (S 0)), (sd 1, aI E 4 (S 1)), (sd 2, aI E 4 (S 2)), (sd 3, aI E 4 (S 3)), (sd 5, aI E 4 (S 5))]) (C := RX3) [] (c_X3_put E (ad 4) (sd 4) 4 (.ref (ad 3)) (g 4) (S 4) what w t3 t4 (by omega) (by omega) (by omega)) [7, 13] [0, 1, 2, 3, 4, 5, 6, 8, 9, 10, 11, 12, 14] 0 rfl rfl gX6_set_X3_put rfl ⟨rfl, by decide +kernel⟩ ⟨by decide, by decide⟩ rfl rfl rfl rfl rfl (by decide) rfl (by decide) (by decide) (fun _ h => h) dX6_set_65 rfl (Nat.le_of_ble_eq_true rfl) ⟨by decide, by decide⟩ (fun r u p_46 => ?_)
          obtain ⟨rfl, rfl⟩ := p_46
          refine g_perm (ws1 := [(x0, oo 6 [.ref v, .ref h0, .ref a3, .ref a4, .ref a5, .int (iI lo)]), (v, oo 1 [.ref ma, .int (iI M), .ref fo, .ref la, .int (iI ti), .int (iI so), .int (iI ta), .int (iI go), .int (iI sl)]), (ma, aM E 6 mq), (ad 0, oo 3 (fMa 0 .null (sd 0) (g 0))), (ad 1, oo 3 (fMa 1 (.ref (ad 0)) (sd 1) (g 1))), (ad 2, oo 3 (fMa 2 (.ref (ad 1)) (sd 2) (g 2))), (ad 3, oo 3 (fMa 3 (.ref (ad 2)) (sd 3) (g 3))), (ad 4, oo 3 (fMa 4 (.ref (ad 3)) (sd 4) (g 4))), (ad 5, oo 3 (fMa 5 (.ref (ad 4)) (sd 5) (g 5))), (sd 0, aI E 4 (S 0)), (sd 1, aI E 4 (S 1)), (sd 2, aI E 4 (S 2)), (sd 3, aI E 4 (S 3)), (sd 4, aI E 4 (up (S 4) what w)), (sd 5, aI E 4 (S 5))]) [0, 1, 2, 3, 4, 5, 6, 13, 7, 8, 9, 10, 11, 14, 12] rfl (by decide) rfl ?_
          exact g_iret hRet dX6_set_68 rfl ⟨((S 4) what), (ug S 4 (up (S 4) what w)), (by unfold sp_set; rw [hik.1, if_neg (by omega), if_neg (by omega)]; exact ⟨rfl, rfl⟩), rfl, rfl⟩
    · refine g_iconst dX6_set_42 ?_
      exact g_iret hRet dX6_set_43 rfl ⟨(-1), S, (by unfold sp_set; rw [if_pos (by omega)]; exact ⟨rfl, rfl⟩), rfl, rfl⟩
  · refine g_as (st1 := [.ref (ad 5)]) ?_ rfl rfl (by rw [if_pos (by omega), hik.1]; rfl)
    refine g_astore (lv1 := [(4, .ref (ad 5)), (0, .ref x0), (1, .int (iI i)), (2, .int (iI what)), (3, .int (iI w))]) dX6_set_8 (by decide) rfl ?_
    refine g_aload 0 dX6_set_10 rfl ?_
    refine g_ifnull dX6_set_12 ?_
    refine g_aload 0 dX6_set_15 rfl ?_
    refine g_iload_n 3 dX6_set_17 rfl rfl ?_
    refine g_iload_n 4 dX6_set_18 rfl rfl ?_
    refine g_callV_i (n := 2) (As := [.int (iI what), .int (iI w)]) (wr := [(x0, oo 6 [.ref v, .ref h0, .ref a3, .ref a4, .ref a5, .int (iI lo)]), (v, oo 1 [.ref ma, .int (iI M), .ref fo, .ref la, .int (iI ti), .int (iI so), .int (iI ta), .int (iI go), .int (iI sl)]), (ma, aM E 6 mq), (ad 0, oo 3 (fMa 0 .null (sd 0) (g 0))), (ad 1, oo 3 (fMa 1 (.ref (ad 0)) (sd 1) (g 1))), (ad 2, oo 3 (fMa 2 (.ref (ad 1)) (sd 2) (g 2))), (ad 3, oo 3 (fMa 3 (.ref (ad 2)) (sd 3) (g 3))), (ad 4, oo 3 (fMa 4 (.ref (ad 3)) (sd 4) (g 4))), (sd 0, aI E 4 (S 0)), (sd 1, aI E 4 (S 1)), (sd 2, aI E 4 (S 2)), (sd 3, aI E 4 (S 3)), (sd 4, aI E 4 (S 4)), (sd 5, aI E 4 (S 5))]) (C := RX3) [] (c_X3_mayBeSet E (ad 5) (sd 5) 5 (.ref (ad 4)) (g 5) what w t3 t4 (by omega) (by omega)) [8] [0, 1, 2, 3, 4, 5, 6, 7, 9, 10, 11, 12, 13, 14] 0 rfl rfl gX6_set_X3_mayBeSet rfl ⟨rfl, by decide +kernel⟩ ⟨by decide, by decide⟩ rfl rfl rfl rfl rfl (by decide) rfl (by decide) (by decide) (fun _ h => h) dX6_set_19 rfl (Nat.le_of_ble_eq_true rfl) ⟨by decide, by decide⟩ (fun r u p_47 => ?_)
    obtain ⟨rfl, rfl⟩ := p_47
    refine g_perm (ws1 := [(x0, oo 6 [.ref v, .ref h0, .ref a3, .ref a4, .ref a5, .int (iI lo)]), (v, oo 1 [.ref ma, .int (iI M), .ref fo, .ref la, .int (iI ti), .int (iI so), .int (iI ta), .int (iI go), .int (iI sl)]), (ma, aM E 6 mq), (ad 0, oo 3 (fMa 0 .null (sd 0) (g 0))), (ad 1, oo 3 (fMa 1 (.ref (ad 0)) (sd 1) (g 1))), (ad 2, oo 3 (fMa 2 (.ref (ad 1)) (sd 2) (g 2))), (ad 3, oo 3 (fMa 3 (.ref (ad 2)) (sd 3) (g 3))), (ad 4, oo 3 (fMa 4 (.ref (ad 3)) (sd 4) (g 4))), (ad 5, oo 3 (fMa 5 (.ref (ad 4)) (sd 5) (g 5))), (sd 0, aI E 4 (S 0)), (sd 1, aI E 4 (S 1)), (sd 2, aI E 4 (S 2)), (sd 3, aI E 4 (S 3)), (sd 4, aI E 4 (S 4)), (sd 5, aI E 4 (S 5))]) [0, 1, 2, 3, 4, 5, 6, 7, 14, 8, 9, 10, 11, 12, 13] rfl (by decide) rfl ?_
    refine g_if_eq_b (tgt := 42) dX6_set_22 rfl (fun c_48 => ?_) (fun c_48 => ?_)
    · refine g_iload_n 3 dX6_set_25 rfl rfl ?_
      refine g_iconst dX6_set_26 ?_
      refine g_icmp_ne (tgt := 44) (by unfold R32; omega) (by unfold R32; omega) dX6_set_27 rfl (fun c_49 => ?_) (fun c_49 => ?_)
      · refine g_aload_n 1 dX6_set_30 rfl rfl ?_
        refine g_get (C := RX6) (T := TX6) (N := 6) 0 0 (fun _ h => List.mem_cons_of_mem _ (List.mem_append_left _ (List.mem_append_left _ (List.mem_append_right _ h)))) (List.mem_of_getElem? (i := 1) rfl) rfl rfl (by decide) rfl rfl dX6_set_31 ?_
        refine g_aload 0 dX6_set_34 rfl ?_
        refine g_callV_i (n := 1) (As := [.ref (ad 5)]) (wr := [(x0, oo 6 [.ref v, .ref h0, .ref a3, .ref a4, .ref a5, .int (iI lo)]), (ma, aM E 6 mq), (ad 0, oo 3 (fMa 0 .null (sd 0) (g 0))), (ad 1, oo 3 (fMa 1 (.ref (ad 0)) (sd 1) (g 1))), (ad 2, oo 3 (fMa 2 (.ref (ad 1)) (sd 2) (g 2))), (ad 3, oo 3 (fMa 3 (.ref (ad 2)) (sd 3) (g 3))), (ad 4, oo 3 (fMa 4 (.ref (ad 3)) (sd 4) (g 4))), (sd 0, aI E 4 (S 0)), (sd 1, aI E 4 (S 1)), (sd 2, aI E 4 (S 2)), (sd 3, aI E 4 (S 3)), (sd 4, aI E 4 (S 4)), (sd 5, aI E 4 (S 5))]) (C := RX1) [] (c_X1_isLast E v ma fo la M ti so ta go sl (ad 5) (sd 5) 5 (.ref (ad 4)) (g 5) (by omega) (by omega) (by omega) (by omega) (by omega)) [1, 8] [0, 2, 3, 4, 5, 6, 7, 9, 10, 11, 12, 13, 14] 0 rfl rfl gX6_set_X1_isLast rfl ⟨rfl, by decide +kernel⟩ ⟨by decide, by decide⟩ rfl rfl rfl rfl rfl (by decide) rfl (by decide) (by decide) (fun _ h => absurd h List.not_mem_nil) dX6_set_36 rfl (Nat.le_of_ble_eq_true rfl) ⟨by decide, by decide⟩ (fun r u p_50 => ?_)
        obtain ⟨rfl, rfl⟩ := p_50
        refine g_perm (ws1 := [(x0, oo 6 [.ref v, .ref h0, .ref a3, .ref a4, .ref a5, .int (iI lo)]), (v, oo 1 [.ref ma, .int (iI M), .ref fo, .ref la, .int (iI ti), .int (iI so), .int (iI ta), .int (iI go), .int (iI sl)]), (ma, aM E 6 mq), (ad 0, oo 3 (fMa 0 .null (sd 0) (g 0))), (ad 1, oo 3 (fMa 1 (.ref (ad 0)) (sd 1) (g 1))), (ad 2, oo 3 (fMa 2 (.ref (ad 1)) (sd 2) (g 2))), (ad 3, oo 3 (fMa 3 (.ref (ad 2)) (sd 3) (g 3))), (ad 4, oo 3 (fMa 4 (.ref (ad 3)) (sd 4) (g 4))), (ad 5, oo 3 (fMa 5 (.ref (ad 4)) (sd 5) (g 5))), (sd 0, aI E 4 (S 0)), (sd 1, aI E 4 (S 1)), (sd 2, aI E 4 (S 2)), (sd 3, aI E 4 (S 3)), (sd 4, aI E 4 (S 4)), (sd 5, aI E 4 (S 5))]) [0, 13, 1, 2, 3, 4, 5, 6, 14, 7, 8, 9, 10, 11, 12] rfl (by decide) rfl ?_
        refine g_if_eq_b (tgt := 44) dX6_set_39 rfl (fun c_51 => ?_) (fun c_51 => ?_)
        · refine g_iconst dX6_set_42 ?_
          exact g_iret hRet dX6_set_43 rfl ⟨(-1), S, (by unfold sp_set; rw [if_pos (by omega)]; exact ⟨rfl, rfl⟩), rfl, rfl⟩
        · refine g_iload_n 3 dX6_set_44 rfl rfl ?_
          refine g_iconst dX6_set_45 ?_
          refine g_icmp_ne (tgt := 61) (by unfold R32; omega) (by unfold R32; omega) dX6_set_46 rfl (fun c_52 => ?_) (fun c_52 => ?_)
          · refine g_aload 0 dX6_set_49 rfl ?_
            refine g_get (v := .int (iI ((g 5) 0))) (C := RX3) (T := TX3) (N := 14) 8 3 (fun _ h => List.mem_cons_of_mem _ (List.mem_append_left _ (List.mem_append_right _ h))) (List.mem_of_getElem? (i := 2) rfl) rfl rfl (by decide) rfl rfl dX6_set_51 ?_
            refine g_iload_n 4 dX6_set_54 rfl rfl ?_
            refine g_icmp_le (tgt := 61) (by have q0 := hgk 0 (by omega) (by omega); have q1 := hgk 1 (by omega) (by omega); have q2 := hgk 2 (by omega) (by omega); have q3 := hgk 3 (by omega) (by omega); have q4 := hgk 4 (by omega) (by omega); have q5 := hgk 5 (by omega) (by omega); unfold mOk at q0 q1 q2 q3 q4 q5; unfold R32; omega) (by have q0 := hgk 0 (by omega) (by omega); have q1 := hgk 1 (by omega) (by omega); have q2 := hgk 2 (by omega) (by omega); have q3 := hgk 3 (by omega) (by omega); have q4 := hgk 4 (by omega) (by omega); have q5 := hgk 5 (by omega) (by omega); unfold mOk at q0 q1 q2 q3 q4 q5; unfold R32; omega) dX6_set_55 rfl (fun hgv => ?_) (fun hgv => ?_)
            · refine g_aload 0 dX6_set_61 rfl ?_
              refine g_iload_n 3 dX6_set_63 rfl rfl ?_
              refine g_iload_n 4 dX6_set_64 rfl rfl ?_
              refine g_callV_i (n := 2) (As := [.int (iI what), .int (iI w)]) (wr := [(x0, oo 6 [.ref v, .ref h0, .ref a3, .ref a4, .ref a5, .int (iI lo)]), (v, oo 1 [.ref ma, .int (iI M), .ref fo, .ref la, .int (iI ti), .int (iI so), .int (iI ta), .int (iI go), .int (iI sl)]), (ma, aM E 6 mq), (ad 0, oo 3 (fMa 0 .null (sd 0) (g 0))), (ad 1, oo 3 (fMa 1 (.ref (ad 0)) (sd 1) (g 1))), (ad 2, oo 3 (fMa 2 (.ref (ad 1)) (sd 2) (g 2))), (ad 3, oo 3 (fMa 3 (.ref (ad 2)) (sd 3) (g 3))), (ad 4, oo 3 (fMa 4 (.ref (ad 3)) (sd 4) (g 4))), (sd 0, aI E 4 (S 0)), (sd 1, aI E 4 (S 1)), (sd 2, aI E 4 (S 2)), (sd 3, aI E 4 (S 3)), (sd 4, aI E 4 (S 4))]) (C := RX3) [] (c_X3_put E (ad 5) (sd 5) 5 (.ref (ad 4)) (g 5) (S 5) what w t3 t4 (by omega) (by omega) (by omega)) [8, 14] [0, 1, 2, 3, 4, 5, 6, 7, 9, 10, 11, 12, 13] 0 rfl rfl gX6_set_X3_put rfl ⟨rfl, by decide +kernel⟩ ⟨by decide, by decide⟩ rfl rfl rfl rfl rfl (by decide) rfl (by decide) (by decide) (fun _ h => h) dX6_set_65 rfl (Nat.le_of_ble_eq_true rfl) ⟨by decide, by decide⟩ (fun r u p_53 => ?_)
              obtain ⟨rfl, rfl⟩ := p_53
              refine g_perm (ws1 := [(x0, oo 6 [.ref v, .ref h0, .ref a3, .ref a4, .ref a5, .int (iI lo)]), (v, oo 1 [.ref ma, .int (iI M), .ref fo, .ref la, .int (iI ti), .int (iI so), .int (iI ta), .int (iI go), .int (iI sl)]), (ma, aM E 6 mq), (ad 0, oo 3 (fMa 0 .null (sd 0) (g 0))), (ad 1, oo 3 (fMa 1 (.ref (ad 0)) (sd 1) (g 1))), (ad 2, oo 3 (fMa 2 (.ref (ad 1)) (sd 2) (g 2))), (ad 3, oo 3 (fMa 3 (.ref (ad 2)) (sd 3) (g 3))), (ad 4, oo 3 (fMa 4 (.ref (ad 3)) (sd 4) (g 4))), (ad 5, oo 3 (fMa 5 (.ref (ad 4)) (sd 5) (g 5))), (sd 0, aI E 4 (S 0)), (sd 1, aI E 4 (S 1)), (sd 2, aI E 4 (S 2)), (sd 3, aI E 4 (S 3)), (sd 4, aI E 4 (S 4)), (sd 5, aI E 4 (up (S 5) what w))]) [0, 1, 2, 3, 4, 5, 6, 7, 13, 8, 9, 10, 11, 12, 14] rfl (by decide) rfl ?_
              exact g_iret hRet dX6_set_68 rfl ⟨((S 5) what), (ug S 5 (up (S 5) what w)), (by unfold sp_set; rw [hik.1, if_neg (by omega), if_neg (by omega)]; exact ⟨rfl, rfl⟩), rfl, rfl⟩
            · refine g_bipush dX6_set_58 rfl ?_
              exact g_iret hRet dX6_set_60 rfl ⟨(-2), S, (by unfold sp_set; rw [hik.1, if_neg (by omega), if_pos (by omega)]; exact ⟨rfl, rfl⟩), rfl, rfl⟩
          · exact absurd c_49 (by assumption)
      · refine g_iload_n 3 dX6_set_44 rfl rfl ?_
        refine g_iconst dX6_set_45 ?_
        refine g_icmp_ne (tgt := 61) (by unfold R32; omega) (by unfold R32; omega) dX6_set_46 rfl (fun c_54 => ?_) (fun c_54 => ?_)
        · exact absurd (by assumption) c_49
        · refine g_aload 0 dX6_set_61 rfl ?_
          refine g_iload_n 3 dX6_set_63 rfl rfl ?_
          refine g_iload_n 4 dX6_set_64 rfl rfl ?_
          refine g_callV_i (n := 2) (As := [.int (iI what), .int (iI w)]) (wr := [(x0, oo 6 [.ref v, .ref h0, .ref a3, .ref a4, .ref a5, .int (iI lo)]), (v, oo 1 [.ref ma, .int (iI M), .ref fo, .ref la, .int (iI ti), .int (iI so), .int (iI ta), .int (iI go), .int (iI sl)]), (ma, aM E 6 mq), (ad 0, oo 3 (fMa 0 .null (sd 0) (g 0))), (ad 1, oo 3 (fMa 1 (.ref (ad 0)) (sd 1) (g 1))), (ad 2, oo 3 (fMa 2 (.ref (ad 1)) (sd 2) (g 2))), (ad 3, oo 3 (fMa 3 (.ref (ad 2)) (sd 3) (g 3))), (ad 4, oo 3 (fMa 4 (.ref (ad 3)) (sd 4) (g 4))), (sd 0, aI E 4 (S 0)), (sd 1, aI E 4 (S 1)), (sd 2, aI E 4 (S 2)), (sd 3, aI E 4 (S 3)), (sd 4, aI E 4 (S 4))]) (C := RX3) [] (c_X3_put E (ad 5) (sd 5) 5 (.ref (ad 4)) (g 5) (S 5) what w t3 t4 (by omega) (by omega) (by omega)) [8, 14] [0, 1, 2, 3, 4, 5, 6, 7, 9, 10, 11, 12, 13] 0 rfl rfl gX6_set_X3_put rfl ⟨rfl, by decide +kernel⟩ ⟨by decide, by decide⟩ rfl rfl rfl rfl rfl (by decide) rfl (by decide) (by decide) (fun _ h => h) dX6_set_65 rfl (Nat.le_of_ble_eq_true rfl) ⟨by decide, by decide⟩ (fun r u p_55 => ?_)
          obtain ⟨rfl, rfl⟩ := p_55
          refine g_perm (ws1 := [(x0, oo 6 [.ref v, .ref h0, .ref a3, .ref a4, .ref a5, .int (iI lo)]), (v, oo 1 [.ref ma, .int (iI M), .ref fo, .ref la, .int (iI ti), .int (iI so), .int (iI ta), .int (iI go), .int (iI sl)]), (ma, aM E 6 mq), (ad 0, oo 3 (fMa 0 .null (sd 0) (g 0))), (ad 1, oo 3 (fMa 1 (.ref (ad 0)) (sd 1) (g 1))), (ad 2, oo 3 (fMa 2 (.ref (ad 1)) (sd 2) (g 2))), (ad 3, oo 3 (fMa 3 (.ref (ad 2)) (sd 3) (g 3))), (ad 4, oo 3 (fMa 4 (.ref (ad 3)) (sd 4) (g 4))), (ad 5, oo 3 (fMa 5 (.ref (ad 4)) (sd 5) (g 5))), (sd 0, aI E 4 (S 0)), (sd 1, aI E 4 (S 1)), (sd 2, aI E 4 (S 2)), (sd 3, aI E 4 (S 3)), (sd 4, aI E 4 (S 4)), (sd 5, aI E 4 (up (S 5) what w))]) [0, 1, 2, 3, 4, 5, 6, 7, 13, 8, 9, 10, 11, 12, 14] rfl (by decide) rfl ?_
          exact g_iret hRet dX6_set_68 rfl ⟨((S 5) what), (ug S 5 (up (S 5) what w)), (by unfold sp_set; rw [hik.1, if_neg (by omega), if_neg (by omega)]; exact ⟨rfl, rfl⟩), rfl, rfl⟩
    · refine g_iconst dX6_set_42 ?_
      exact g_iret hRet dX6_set_43 rfl ⟨(-1), S, (by unfold sp_set; rw [if_pos (by omega)]; exact ⟨rfl, rfl⟩), rfl, rfl⟩
  · refine g_as (st1 := [.null]) ?_ rfl rfl (by rw [if_neg hik]; rfl)
    refine g_astoreN (lv1 := [(4, .null), (0, .ref x0), (1, .int (iI i)), (2, .int (iI what)), (3, .int (iI w))]) dX6_set_8 (by decide) rfl ?_
    refine g_aloadN 0 dX6_set_10 rfl ?_
    refine g_ifnullN (tgt := 42) dX6_set_12 rfl ?_
    refine g_iconst dX6_set_42 ?_
    exact g_iret hRet dX6_set_43 rfl ⟨(-1), S, (by unfold sp_set; rw [if_pos (by omega)]; exact ⟨rfl, rfl⟩), rfl, rfl⟩

abbrev LSt : Type := (Int → Int → Int) × Int × Int × Int × Int × (Int → Int) × Int × Int × (Int → Int) × (Int → Int) × (Int → Int)
def sTick (M lo nf : Int) (fm fa fb : Int → Int) (S : Int → Int → Int) (s s' : LSt) : Prop :=
  match s, s' with
  | (g, so, ta, go, sl, ld, ti, cn, bo, lt, wg), (g', so', ta', go', sl', ld', ti', cn', bo', lt', wg') =>
    sPass (fun k => fl fm fa fb k ti nf) M ti S M.toNat g so ta go g' so' ta' go' ∧ sLay M g' sl ld sl' ld' ∧ ti' = ti + 1 ∧ cn' = (if ¬ go' = go ∧ cn < 200 then cn + 1 else cn) ∧ bo' = (if ¬ go' = go ∧ cn < 200 then up bo cn (-4) else bo) ∧ lt' = (if ¬ go' = go ∧ cn < 200 then up lt cn lo else lt) ∧ wg' = (if ¬ go' = go ∧ cn < 200 then up wg cn (-4) else wg)
def sTicks (M lo nf : Int) (fm fa fb : Int → Int) (S : Int → Int → Int) : Nat → LSt → LSt → Prop
  | 0, s, s' => s' = s
  | n + 1, s, s' => ∃ s1, sTick M lo nf fm fa fb S s s1 ∧ sTicks M lo nf fm fa fb S n s1 s'
theorem sTicks_s {M lo nf : Int} {fm fa fb : Int → Int} {S : Int → Int → Int} {n : Nat} {s s1 s' : LSt} (h : sTick M lo nf fm fa fb S s s1) (h2 : sTicks M lo nf fm fa fb S n s1 s') : sTicks M lo nf fm fa fb S (n + 1) s s' := ⟨s1, h, h2⟩
def sp_ticks (M lo nf : Int) (fm fa fb : Int → Int) (S : Int → Int → Int) (n ti x : Int) (s s' : LSt) : Prop :=
  if ¬ (1 ≤ n ∧ n ≤ 500) then x = -1 ∧ s' = s else if 10000 < ti + n then x = -3 ∧ s' = s else x = ti + n ∧ sTicks M lo nf fm fa fb S n.toNat s s'

set_option maxHeartbeats 4000000 in
set_option maxRecDepth 100000 in
theorem c_X6_ticks (E : Ev) (x0 : Nat) (h0 : Nat) (a3 : Nat) (a4 : Nat) (a5 : Nat) (lo : Int) (v : Nat) (ma : Nat) (fo : Nat) (la : Nat) (M : Int) (ti : Int) (so : Int) (ta : Int) (go : Int) (sl : Int) (mq : Int → Option Nat) (ad : Int → Nat) (sd : Int → Nat) (g : Int → Int → Int) (ld : Int → Int) (S : Int → Int → Int) (f1 : Nat) (f2 : Nat) (f3 : Nat) (nf : Int) (fm : Int → Int) (fa : Int → Int) (fb : Int → Int) (b1 : Nat) (b2 : Nat) (b3 : Nat) (b4 : Nat) (b5 : Nat) (b6 : Nat) (b7 : Nat) (b8 : Nat) (cn : Int) (bo : Int → Int) (lt : Int → Int) (wg : Int → Int) (n : Int) (hM : 2 ≤ M ∧ M ≤ 6) (hti : 0 ≤ ti ∧ ti ≤ 10000) (hso : 0 ≤ so ∧ so ≤ 100000) (hgo : 0 ≤ go ∧ go ≤ 20000) (hgo2 : go ≤ ti) (hmq : ∀ k, 0 ≤ k → k < 6 → mq k = some (ad k)) (hgk : ∀ j, 0 ≤ j → j < 6 → kOk ti (g j)) (hS : ∀ j, 0 ≤ j → j < 6 → sOk (S j)) (hnf : 0 ≤ nf ∧ nf ≤ 8) (hfm : ∀ k, 0 ≤ fm k ∧ fm k ≤ 5) (hfa : ∀ k, 0 ≤ fa k ∧ fa k ≤ 9999) (hfb : ∀ k, 0 ≤ fb k ∧ fb k ≤ 9999) (hlo : 0 ≤ lo ∧ lo ≤ 15) (hcn : 0 ≤ cn ∧ cn ≤ 200) (hbo : ∀ k, -4 ≤ bo k ∧ bo k ≤ 29) (hlt : ∀ k, 0 ≤ lt k ∧ lt k ≤ 15) (hwg : ∀ k, -4 ≤ wg k ∧ wg k ≤ 10000) (h_n : -2147483648 ≤ n ∧ n ≤ 2147483647) : MI yX6_ticks wsX6_ticks ({ frames := 5, cells := 0, slots := 0, locals := 106 } : Room) E [] 0 0 [.ref x0, .int (iI n)] [(x0, oo 6 [.ref v, .ref h0, .ref a3, .ref a4, .ref a5, .int (iI lo)]), (v, oo 1 [.ref ma, .int (iI M), .ref fo, .ref la, .int (iI ti), .int (iI so), .int (iI ta), .int (iI go), .int (iI sl)]), (ma, aM E 6 mq), (fo, oo 2 [.ref f1, .ref f2, .ref f3, .int (iI nf)]), (f1, aI E 8 fm), (f2, aI E 8 fa), (f3, aI E 8 fb), (la, aI E 8 ld), (ad 0, oo 3 (fMa 0 .null (sd 0) (g 0))), (sd 0, aI E 4 (S 0)), (ad 1, oo 3 (fMa 1 (.ref (ad 0)) (sd 1) (g 1))), (sd 1, aI E 4 (S 1)), (ad 2, oo 3 (fMa 2 (.ref (ad 1)) (sd 2) (g 2))), (sd 2, aI E 4 (S 2)), (ad 3, oo 3 (fMa 3 (.ref (ad 2)) (sd 3) (g 3))), (sd 3, aI E 4 (S 3)), (ad 4, oo 3 (fMa 4 (.ref (ad 3)) (sd 4) (g 4))), (sd 4, aI E 4 (S 4)), (ad 5, oo 3 (fMa 5 (.ref (ad 4)) (sd 5) (g 5))), (sd 5, aI E 4 (S 5)), (h0, oo 0 [.int (iI cn), .ref b1, .ref b2, .ref b3, .ref b4, .ref b5, .ref b6, .ref b7, .ref b8]), (b1, aI E 200 bo), (b2, aI E 200 lt), (b3, aI E 200 wg)] (fun r u => ∃ (x : Int), ∃ (g' : Int → Int → Int), ∃ (so' : Int), ∃ (ta' : Int), ∃ (go' : Int), ∃ (sl' : Int), ∃ (ld' : Int → Int), ∃ (ti' : Int), ∃ (cn' : Int), ∃ (bo' : Int → Int), ∃ (lt' : Int → Int), ∃ (wg' : Int → Int), sp_ticks M lo nf fm fa fb S n ti x (g, so, ta, go, sl, ld, ti, cn, bo, lt, wg) (g', so', ta', go', sl', ld', ti', cn', bo', lt', wg') ∧ ((∀ j, 0 ≤ j → j < 6 → kOk ti' (g' j)) ∧ (0 ≤ so' ∧ so' ≤ 100000) ∧ (0 ≤ go' ∧ go' ≤ ti') ∧ (0 ≤ ti' ∧ ti' ≤ 10000) ∧ (0 ≤ cn' ∧ cn' ≤ 200) ∧ (∀ k, -4 ≤ bo' k ∧ bo' k ≤ 29) ∧ (∀ k, 0 ≤ lt' k ∧ lt' k ≤ 15) ∧ (∀ k, -4 ≤ wg' k ∧ wg' k ≤ 10000)) ∧ r = iI x ∧ u = [(x0, oo 6 [.ref v, .ref h0, .ref a3, .ref a4, .ref a5, .int (iI lo)]), (v, oo 1 [.ref ma, .int (iI M), .ref fo, .ref la, .int (iI ti'), .int (iI so'), .int (iI ta'), .int (iI go'), .int (iI sl')]), (ma, aM E 6 mq), (fo, oo 2 [.ref f1, .ref f2, .ref f3, .int (iI nf)]), (f1, aI E 8 fm), (f2, aI E 8 fa), (f3, aI E 8 fb), (la, aI E 8 ld'), (ad 0, oo 3 (fMa 0 .null (sd 0) (g' 0))), (sd 0, aI E 4 (S 0)), (ad 1, oo 3 (fMa 1 (.ref (ad 0)) (sd 1) (g' 1))), (sd 1, aI E 4 (S 1)), (ad 2, oo 3 (fMa 2 (.ref (ad 1)) (sd 2) (g' 2))), (sd 2, aI E 4 (S 2)), (ad 3, oo 3 (fMa 3 (.ref (ad 2)) (sd 3) (g' 3))), (sd 3, aI E 4 (S 3)), (ad 4, oo 3 (fMa 4 (.ref (ad 3)) (sd 4) (g' 4))), (sd 4, aI E 4 (S 4)), (ad 5, oo 3 (fMa 5 (.ref (ad 4)) (sd 5) (g' 5))), (sd 5, aI E 4 (S 5)), (h0, oo 0 [.int (iI cn'), .ref b1, .ref b2, .ref b3, .ref b4, .ref b5, .ref b6, .ref b7, .ref b8]), (b1, aI E 200 bo'), (b2, aI E 200 lt'), (b3, aI E 200 wg')]) := by
  refine MI.of (cc := cX6_ticks) (maxL := 3) (own := RX6) (by decide) rfl rfl rfl (Nat.le_of_ble_eq_true rfl) [(0, .ref x0), (1, .int (iI n))] rfl ?_
  intro X hin2 hRet
  refine g_iload_n 1 dX6_ticks_0 rfl rfl ?_
  refine g_iconst dX6_ticks_1 ?_
  refine g_sipush dX6_ticks_2 rfl ?_
  refine g_callS_i (n := 3) (As := [.int (iI n), .int (iI 1), .int (iI 500)]) (wr := [(x0, oo 6 [.ref v, .ref h0, .ref a3, .ref a4, .ref a5, .int (iI lo)]), (v, oo 1 [.ref ma, .int (iI M), .ref fo, .ref la, .int (iI ti), .int (iI so), .int (iI ta), .int (iI go), .int (iI sl)]), (ma, aM E 6 mq), (fo, oo 2 [.ref f1, .ref f2, .ref f3, .int (iI nf)]), (f1, aI E 8 fm), (f2, aI E 8 fa), (f3, aI E 8 fb), (la, aI E 8 ld), (ad 0, oo 3 (fMa 0 .null (sd 0) (g 0))), (sd 0, aI E 4 (S 0)), (ad 1, oo 3 (fMa 1 (.ref (ad 0)) (sd 1) (g 1))), (sd 1, aI E 4 (S 1)), (ad 2, oo 3 (fMa 2 (.ref (ad 1)) (sd 2) (g 2))), (sd 2, aI E 4 (S 2)), (ad 3, oo 3 (fMa 3 (.ref (ad 2)) (sd 3) (g 3))), (sd 3, aI E 4 (S 3)), (ad 4, oo 3 (fMa 4 (.ref (ad 3)) (sd 4) (g 4))), (sd 4, aI E 4 (S 4)), (ad 5, oo 3 (fMa 5 (.ref (ad 4)) (sd 5) (g 5))), (sd 5, aI E 4 (S 5)), (h0, oo 0 [.int (iI cn), .ref b1, .ref b2, .ref b3, .ref b4, .ref b5, .ref b6, .ref b7, .ref b8]), (b1, aI E 200 bo), (b2, aI E 200 lt), (b3, aI E 200 wg)]) [] (c_X6_within E n 1 500 (by omega) (by omega) (by omega)) [] [0, 1, 2, 3, 4, 5, 6, 7, 8, 9, 10, 11, 12, 13, 14, 15, 16, 17, 18, 19, 20, 21, 22, 23] gX6_ticks_X6_within rfl ⟨rfl, by decide +kernel⟩ ⟨by decide, by decide⟩ rfl rfl rfl rfl rfl (by decide) rfl (by decide) (by decide) (fun _ h => absurd h List.not_mem_nil) dX6_ticks_5 rfl (Nat.le_of_ble_eq_true rfl) ⟨by decide, by decide⟩ (fun r u p_1 => ?_)
  obtain ⟨rfl, rfl⟩ := p_1
  refine g_perm (ws1 := [(x0, oo 6 [.ref v, .ref h0, .ref a3, .ref a4, .ref a5, .int (iI lo)]), (v, oo 1 [.ref ma, .int (iI M), .ref fo, .ref la, .int (iI ti), .int (iI so), .int (iI ta), .int (iI go), .int (iI sl)]), (ma, aM E 6 mq), (fo, oo 2 [.ref f1, .ref f2, .ref f3, .int (iI nf)]), (f1, aI E 8 fm), (f2, aI E 8 fa), (f3, aI E 8 fb), (la, aI E 8 ld), (ad 0, oo 3 (fMa 0 .null (sd 0) (g 0))), (sd 0, aI E 4 (S 0)), (ad 1, oo 3 (fMa 1 (.ref (ad 0)) (sd 1) (g 1))), (sd 1, aI E 4 (S 1)), (ad 2, oo 3 (fMa 2 (.ref (ad 1)) (sd 2) (g 2))), (sd 2, aI E 4 (S 2)), (ad 3, oo 3 (fMa 3 (.ref (ad 2)) (sd 3) (g 3))), (sd 3, aI E 4 (S 3)), (ad 4, oo 3 (fMa 4 (.ref (ad 3)) (sd 4) (g 4))), (sd 4, aI E 4 (S 4)), (ad 5, oo 3 (fMa 5 (.ref (ad 4)) (sd 5) (g 5))), (sd 5, aI E 4 (S 5)), (h0, oo 0 [.int (iI cn), .ref b1, .ref b2, .ref b3, .ref b4, .ref b5, .ref b6, .ref b7, .ref b8]), (b1, aI E 200 bo), (b2, aI E 200 lt), (b3, aI E 200 wg)]) [0, 1, 2, 3, 4, 5, 6, 7, 8, 9, 10, 11, 12, 13, 14, 15, 16, 17, 18, 19, 20, 21, 22, 23] rfl (by decide) rfl ?_
  refine g_if_ne_b (tgt := 13) dX6_ticks_8 rfl (fun c_2 => ?_) (fun c_2 => ?_)
  · refine g_aload_n 0 dX6_ticks_13 rfl rfl ?_
    refine g_get (C := RX6) (T := TX6) (N := 6) 0 0 (fun _ h => List.mem_cons_of_mem _ (List.mem_append_left _ (List.mem_append_left _ (List.mem_append_left _ (List.mem_append_left _ (List.mem_append_right _ h)))))) (List.mem_of_getElem? (i := 1) rfl) rfl rfl (by decide) rfl rfl dX6_ticks_14 ?_
    refine g_get (C := RX1) (T := TX1) (N := 9) 1 4 (fun _ h => List.mem_cons_of_mem _ (List.mem_append_left _ (List.mem_append_left _ (List.mem_append_left _ (List.mem_append_right _ h))))) (List.mem_of_getElem? (i := 2) rfl) rfl rfl (by decide) rfl rfl dX6_ticks_17 ?_
    refine g_iload_n 1 dX6_ticks_20 rfl rfl ?_
    refine g_iadd dX6_ticks_21 ?_
    refine g_sipush dX6_ticks_22 rfl ?_
    refine g_icmp_le (tgt := 31) (by unfold R32; omega) (by unfold R32; omega) dX6_ticks_25 rfl (fun c_3 => ?_) (fun c_3 => ?_)
    · refine g_iconst dX6_ticks_31 ?_
      refine g_istore_n (lv1 := [(2, .int (iI 0)), (0, .ref x0), (1, .int (iI n))]) dX6_ticks_32 rfl (by decide) rfl ?_
      refine g_lv (lv1 := [(0, .ref x0), (1, .int (iI n)), (2, .int (iI 0))]) [1, 2, 0] rfl ?_
      have L33 : ∀ (nn : Nat) (i : Int) (g1 : Int → Int → Int) (so1 : Int) (ta1 : Int) (go1 : Int) (sl1 : Int) (ld1 : Int → Int) (ti1 : Int) (cn1 : Int) (bo1 : Int → Int) (lt1 : Int → Int) (wg1 : Int → Int) (hi : 0 ≤ i ∧ i ≤ n) (hti1 : ti1 = ti + i) (hK : ∀ s' : LSt, sTicks M lo nf fm fa fb S (n - i).toNat (g1, so1, ta1, go1, sl1, ld1, ti1, cn1, bo1, lt1, wg1) s' → sTicks M lo nf fm fa fb S n.toNat (g, so, ta, go, sl, ld, ti, cn, bo, lt, wg) s') (hG : (∀ j, 0 ≤ j → j < 6 → kOk ti1 (g1 j)) ∧ (0 ≤ so1 ∧ so1 ≤ 100000) ∧ (0 ≤ go1 ∧ go1 ≤ ti1) ∧ (0 ≤ ti1 ∧ ti1 ≤ 10000) ∧ (0 ≤ cn1 ∧ cn1 ≤ 200) ∧ (∀ k, -4 ≤ bo1 k ∧ bo1 k ≤ 29) ∧ (∀ k, 0 ≤ lt1 k ∧ lt1 k ≤ 15) ∧ (∀ k, -4 ≤ wg1 k ∧ wg1 k ≤ 10000)) (hm : n - i < (nn : Int)), G X ({ frames := 5, cells := 0, slots := 0, locals := 106 } : Room) cX6_ticks 3 RX6 wsX6_ticks E [] 0 0 [(x0, oo 6 [.ref v, .ref h0, .ref a3, .ref a4, .ref a5, .int (iI lo)]), (v, oo 1 [.ref ma, .int (iI M), .ref fo, .ref la, .int (iI ti1), .int (iI so1), .int (iI ta1), .int (iI go1), .int (iI sl1)]), (ma, aM E 6 mq), (fo, oo 2 [.ref f1, .ref f2, .ref f3, .int (iI nf)]), (f1, aI E 8 fm), (f2, aI E 8 fa), (f3, aI E 8 fb), (la, aI E 8 ld1), (ad 0, oo 3 (fMa 0 .null (sd 0) (g1 0))), (sd 0, aI E 4 (S 0)), (ad 1, oo 3 (fMa 1 (.ref (ad 0)) (sd 1) (g1 1))), (sd 1, aI E 4 (S 1)), (ad 2, oo 3 (fMa 2 (.ref (ad 1)) (sd 2) (g1 2))), (sd 2, aI E 4 (S 2)), (ad 3, oo 3 (fMa 3 (.ref (ad 2)) (sd 3) (g1 3))), (sd 3, aI E 4 (S 3)), (ad 4, oo 3 (fMa 4 (.ref (ad 3)) (sd 4) (g1 4))), (sd 4, aI E 4 (S 4)), (ad 5, oo 3 (fMa 5 (.ref (ad 4)) (sd 5) (g1 5))), (sd 5, aI E 4 (S 5)), (h0, oo 0 [.int (iI cn1), .ref b1, .ref b2, .ref b3, .ref b4, .ref b5, .ref b6, .ref b7, .ref b8]), (b1, aI E 200 bo1), (b2, aI E 200 lt1), (b3, aI E 200 wg1)] [(0, .ref x0), (1, .int (iI n)), (2, .int (iI i))] 33 [] := by
        intro nn
        induction nn with
        | zero => intro i g1 so1 ta1 go1 sl1 ld1 ti1 cn1 bo1 lt1 wg1 hi hti1 hK hG hm; exfalso; omega
        | succ nn ih33 =>
          intro i g1 so1 ta1 go1 sl1 ld1 ti1 cn1 bo1 lt1 wg1 hi hti1 hK hG hm
          refine g_iload_n 2 dX6_ticks_33 rfl rfl ?_
          refine g_iload_n 1 dX6_ticks_34 rfl rfl ?_
          refine g_icmp_ge (tgt := 65) (by unfold R32; omega) (by unfold R32; omega) dX6_ticks_35 rfl (fun c_4 => ?_) (fun c_4 => ?_)
          · refine g_aload_n 0 dX6_ticks_65 rfl rfl ?_
            refine g_get (C := RX6) (T := TX6) (N := 6) 0 0 (fun _ h => List.mem_cons_of_mem _ (List.mem_append_left _ (List.mem_append_left _ (List.mem_append_left _ (List.mem_append_left _ (List.mem_append_right _ h)))))) (List.mem_of_getElem? (i := 1) rfl) rfl rfl (by decide) rfl rfl dX6_ticks_66 ?_
            refine g_get (C := RX1) (T := TX1) (N := 9) 1 4 (fun _ h => List.mem_cons_of_mem _ (List.mem_append_left _ (List.mem_append_left _ (List.mem_append_left _ (List.mem_append_right _ h))))) (List.mem_of_getElem? (i := 2) rfl) rfl rfl (by decide) rfl rfl dX6_ticks_69 ?_
            exact g_iret hRet dX6_ticks_72 rfl ⟨ti1, g1, so1, ta1, go1, sl1, ld1, ti1, cn1, bo1, lt1, wg1, (by unfold sp_ticks; rw [if_neg (by omega), if_neg (by omega)]; refine ⟨by omega, hK _ ?_⟩; rw [show (n - i).toNat = 0 by omega]; rfl), (by exact hG), rfl, rfl⟩
          · refine g_aload_n 0 dX6_ticks_38 rfl rfl ?_
            refine g_get (C := RX6) (T := TX6) (N := 6) 0 0 (fun _ h => List.mem_cons_of_mem _ (List.mem_append_left _ (List.mem_append_left _ (List.mem_append_left _ (List.mem_append_left _ (List.mem_append_right _ h)))))) (List.mem_of_getElem? (i := 1) rfl) rfl rfl (by decide) rfl rfl dX6_ticks_39 ?_
            refine g_callV_i (n := 0) (As := []) (wr := [(x0, oo 6 [.ref v, .ref h0, .ref a3, .ref a4, .ref a5, .int (iI lo)]), (h0, oo 0 [.int (iI cn1), .ref b1, .ref b2, .ref b3, .ref b4, .ref b5, .ref b6, .ref b7, .ref b8]), (b1, aI E 200 bo1), (b2, aI E 200 lt1), (b3, aI E 200 wg1)]) (C := RX1) [] (c_X1_step E v ma fo la M ti1 so1 ta1 go1 sl1 mq ad sd g1 ld1 S f1 f2 f3 nf fm fa fb (by omega) (by omega) (by omega) (by omega) (by omega) (by omega) (by exact hmq) (by exact hG.1) (by exact hS) (by omega) (by exact hfm) (by exact hfa) (by exact hfb)) [1, 2, 3, 4, 5, 6, 7, 8, 9, 10, 11, 12, 13, 14, 15, 16, 17, 18, 19] [0, 20, 21, 22, 23] 0 rfl rfl gX6_ticks_X1_step rfl ⟨rfl, by decide +kernel⟩ ⟨by decide, by decide⟩ rfl rfl rfl rfl rfl (by decide) rfl (by decide) (by decide) (fun _ h => absurd h List.not_mem_nil) dX6_ticks_42 rfl (Nat.le_of_ble_eq_true rfl) ⟨by decide, by decide⟩ (fun r u p_5 => ?_)
            obtain ⟨gg, sos, tas, gos, sls, lds, fe1, fe2, fe3, rfl, rfl⟩ := p_5
            refine g_perm (ws1 := [(x0, oo 6 [.ref v, .ref h0, .ref a3, .ref a4, .ref a5, .int (iI lo)]), (v, oo 1 [.ref ma, .int (iI M), .ref fo, .ref la, .int (iI (ti1 + 1)), .int (iI sos), .int (iI tas), .int (iI gos), .int (iI sls)]), (ma, aM E 6 mq), (fo, oo 2 [.ref f1, .ref f2, .ref f3, .int (iI nf)]), (f1, aI E 8 fm), (f2, aI E 8 fa), (f3, aI E 8 fb), (la, aI E 8 lds), (ad 0, oo 3 (fMa 0 .null (sd 0) (gg 0))), (sd 0, aI E 4 (S 0)), (ad 1, oo 3 (fMa 1 (.ref (ad 0)) (sd 1) (gg 1))), (sd 1, aI E 4 (S 1)), (ad 2, oo 3 (fMa 2 (.ref (ad 1)) (sd 2) (gg 2))), (sd 2, aI E 4 (S 2)), (ad 3, oo 3 (fMa 3 (.ref (ad 2)) (sd 3) (gg 3))), (sd 3, aI E 4 (S 3)), (ad 4, oo 3 (fMa 4 (.ref (ad 3)) (sd 4) (gg 4))), (sd 4, aI E 4 (S 4)), (ad 5, oo 3 (fMa 5 (.ref (ad 4)) (sd 5) (gg 5))), (sd 5, aI E 4 (S 5)), (h0, oo 0 [.int (iI cn1), .ref b1, .ref b2, .ref b3, .ref b4, .ref b5, .ref b6, .ref b7, .ref b8]), (b1, aI E 200 bo1), (b2, aI E 200 lt1), (b3, aI E 200 wg1)]) [0, 5, 6, 7, 8, 9, 10, 11, 12, 13, 14, 15, 16, 17, 18, 19, 20, 21, 22, 23, 1, 2, 3, 4] rfl (by decide) rfl ?_
            refine g_if_eq_b (tgt := 59) dX6_ticks_45 rfl (fun hgn => ?_) (fun hgn => ?_)
            · refine g_aload_n 0 dX6_ticks_48 rfl rfl ?_
              refine g_get (C := RX6) (T := TX6) (N := 6) 0 1 (fun _ h => List.mem_cons_of_mem _ (List.mem_append_left _ (List.mem_append_left _ (List.mem_append_left _ (List.mem_append_left _ (List.mem_append_right _ h)))))) (List.mem_of_getElem? (i := 3) rfl) rfl rfl (by decide) rfl rfl dX6_ticks_49 ?_
              refine g_aload_n 0 dX6_ticks_52 rfl rfl ?_
              refine g_get (C := RX6) (T := TX6) (N := 6) 0 5 (fun _ h => List.mem_cons_of_mem _ (List.mem_append_left _ (List.mem_append_left _ (List.mem_append_left _ (List.mem_append_left _ (List.mem_append_right _ h)))))) (List.mem_of_getElem? (i := 4) rfl) rfl rfl (by decide) rfl rfl dX6_ticks_53 ?_
              refine g_callV_v (n := 1) (As := [.int (iI lo)]) (wr := [(x0, oo 6 [.ref v, .ref h0, .ref a3, .ref a4, .ref a5, .int (iI lo)]), (v, oo 1 [.ref ma, .int (iI M), .ref fo, .ref la, .int (iI (ti1 + 1)), .int (iI sos), .int (iI tas), .int (iI gos), .int (iI sls)]), (ma, aM E 6 mq), (fo, oo 2 [.ref f1, .ref f2, .ref f3, .int (iI nf)]), (f1, aI E 8 fm), (f2, aI E 8 fa), (f3, aI E 8 fb), (la, aI E 8 lds), (ad 0, oo 3 (fMa 0 .null (sd 0) (gg 0))), (sd 0, aI E 4 (S 0)), (ad 1, oo 3 (fMa 1 (.ref (ad 0)) (sd 1) (gg 1))), (sd 1, aI E 4 (S 1)), (ad 2, oo 3 (fMa 2 (.ref (ad 1)) (sd 2) (gg 2))), (sd 2, aI E 4 (S 2)), (ad 3, oo 3 (fMa 3 (.ref (ad 2)) (sd 3) (gg 3))), (sd 3, aI E 4 (S 3)), (ad 4, oo 3 (fMa 4 (.ref (ad 3)) (sd 4) (gg 4))), (sd 4, aI E 4 (S 4)), (ad 5, oo 3 (fMa 5 (.ref (ad 4)) (sd 5) (gg 5))), (sd 5, aI E 4 (S 5))]) (C := RX0) [] (c_X0_add E h0 b1 b2 b3 b4 b5 b6 b7 b8 cn1 bo1 lt1 wg1 lo (by omega) (by exact hG.2.2.2.2.2.1) (by exact hG.2.2.2.2.2.2.1) (by exact hG.2.2.2.2.2.2.2) (by omega)) [20, 21, 22, 23] [0, 1, 2, 3, 4, 5, 6, 7, 8, 9, 10, 11, 12, 13, 14, 15, 16, 17, 18, 19] 0 rfl rfl gX6_ticks_X0_add rfl ⟨rfl, by decide +kernel⟩ ⟨by decide, by decide⟩ rfl rfl rfl rfl rfl (by decide) rfl (by decide) (by decide) (fun _ h => absurd h List.not_mem_nil) dX6_ticks_56 rfl (Nat.le_of_ble_eq_true rfl) ⟨by decide, by decide⟩ (fun u p_6 => ?_)
              subst p_6
              refine g_iinc (lv1 := [(2, .int (iI (i + 1))), (0, .ref x0), (1, .int (iI n))]) 2 dX6_ticks_59 rfl (by decide) rfl ?_
              refine g_goto (tgt := 33) dX6_ticks_62 rfl ?_
              refine g_lv (lv1 := [(0, .ref x0), (1, .int (iI n)), (2, .int (iI (i + 1)))]) [1, 2, 0] rfl ?_
              exact ih33 (i + 1) gg sos tas gos sls lds (ti1 + 1) (if cn1 < 200 then cn1 + 1 else cn1) (if cn1 < 200 then up bo1 cn1 (-4) else bo1) (if cn1 < 200 then up lt1 cn1 lo else lt1) (if cn1 < 200 then up wg1 cn1 (-4) else wg1) (by omega) (by omega) (by intro s' h; apply hK; rw [show (n - i).toNat = (n - (i + 1)).toNat + 1 by omega]; refine sTicks_s ⟨fe1, fe2, rfl, ?_, ?_, ?_, ?_⟩ h <;> simp only [hgn, not_false_eq_true, true_and]) (by obtain ⟨G1, G2, G3, G4, G5, G6, G7, G8⟩ := hG; exact ⟨fe3.1, by omega, by omega, by omega, by split <;> omega, by intro k; split <;> (try unfold up) <;> (try split) <;> have q9 := G6 k <;> omega, by intro k; split <;> (try unfold up) <;> (try split) <;> have q9 := G7 k <;> omega, by intro k; split <;> (try unfold up) <;> (try split) <;> have q9 := G8 k <;> omega⟩) (by omega)
            · refine g_iinc (lv1 := [(2, .int (iI (i + 1))), (0, .ref x0), (1, .int (iI n))]) 2 dX6_ticks_59 rfl (by decide) rfl ?_
              refine g_goto (tgt := 33) dX6_ticks_62 rfl ?_
              refine g_lv (lv1 := [(0, .ref x0), (1, .int (iI n)), (2, .int (iI (i + 1)))]) [1, 2, 0] rfl ?_
              exact ih33 (i + 1) gg sos tas gos sls lds (ti1 + 1) cn1 bo1 lt1 wg1 (by omega) (by omega) (by intro s' h; apply hK; rw [show (n - i).toNat = (n - (i + 1)).toNat + 1 by omega]; refine sTicks_s ⟨fe1, fe2, rfl, ?_, ?_, ?_, ?_⟩ h <;> rw [if_neg (fun q => hgn q.1)]) (by obtain ⟨G1, G2, G3, G4, G5, G6, G7, G8⟩ := hG; exact ⟨fe3.1, by omega, by omega, by omega, G5, G6, G7, G8⟩) (by omega)
      exact L33 _ 0 g so ta go sl ld ti cn bo lt wg (by omega) (by omega) (by intro s' h; rw [show n - 0 = n by omega] at h; exact h) (by exact ⟨hgk, hso, ⟨hgo.1, hgo2⟩, hti, hcn, hbo, hlt, hwg⟩) (lt_nn _)
    · refine g_bipush dX6_ticks_28 rfl ?_
      exact g_iret hRet dX6_ticks_30 rfl ⟨(-3), g, so, ta, go, sl, ld, ti, cn, bo, lt, wg, (by unfold sp_ticks; rw [if_neg (by omega), if_pos (by omega)]; exact ⟨rfl, rfl⟩), (by exact ⟨hgk, hso, ⟨hgo.1, hgo2⟩, hti, hcn, hbo, hlt, hwg⟩), rfl, rfl⟩
  · refine g_iconst dX6_ticks_11 ?_
    exact g_iret hRet dX6_ticks_12 rfl ⟨(-1), g, so, ta, go, sl, ld, ti, cn, bo, lt, wg, (by unfold sp_ticks; rw [if_pos (by omega)]; exact ⟨rfl, rfl⟩), (by exact ⟨hgk, hso, ⟨hgo.1, hgo2⟩, hti, hcn, hbo, hlt, hwg⟩), rfl, rfl⟩

end FACE2B
