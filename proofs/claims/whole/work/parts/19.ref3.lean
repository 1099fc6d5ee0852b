section REF3
set_option maxHeartbeats 4000000 in
set_option maxRecDepth 100000 in
theorem c_X7_ticks (E : Ev) (m0 : Nat) (ra : Nat → Nat) (mm : Int) (nf : Int) (ti : Int) (so : Int) (ta : Int) (go : Int) (sl : Int) (lo : Int) (cn : Int) (lx : Int) (ly : Int) (pm : Int) (pi : Int) (g : Int → Int → Int) (S : Int → Int → Int) (fm : Int → Int) (fa : Int → Int) (fb : Int → Int) (lt : Int → Int) (bo : Int → Int) (wg : Int → Int) (ld : Int → Int) (n : Int) (hM : 2 ≤ mm ∧ mm ≤ 6) (hti : 0 ≤ ti ∧ ti ≤ 10000) (hso : 0 ≤ so ∧ so ≤ 100000) (hgo : 0 ≤ go ∧ go ≤ 20000) (hcn : 0 ≤ cn ∧ cn ≤ 200) (hlo : 0 ≤ lo ∧ lo ≤ 15) (hnf : 0 ≤ nf ∧ nf ≤ 8) (hfm : ∀ k, 0 ≤ fm k ∧ fm k ≤ 5) (hfa : ∀ k, 0 ≤ fa k ∧ fa k ≤ 9999) (hfb : ∀ k, 0 ≤ fb k ∧ fb k ≤ 9999) (hgo2 : go ≤ ti) (hgk : ∀ j, 0 ≤ j → j < 6 → kOk ti (g j)) (hS : ∀ j, 0 ≤ j → j < 6 → sOk (S j)) (hgs : ∀ j, 0 ≤ j → j < 6 → g j 0 ≤ S j 3) (h_n : -2147483648 ≤ n ∧ n ≤ 2147483647) : MI yX7_ticks wsX7_ticks ({ frames := 4, cells := 0, slots := 0, locals := 87 } : Room) E [] 0 0 [.ref m0, .int (iI n)] [(m0, oo 7 (fMo ra mm nf ti so ta go sl lo cn lx ly pm pi)), (ra 6, aI E 6 (fun j => g j 9)), (ra 15, aI E 8 fm), (ra 16, aI E 8 fa), (ra 17, aI E 8 fb), (ra 12, aI E 6 (fun j => g j 7)), (ra 13, aI E 6 (fun j => g j 8)), (ra 11, aI E 6 (fun j => wkOf (g j))), (ra 5, aI E 6 (fun j => g j 0)), (ra 4, aI E 6 (fun j => S j 3)), (ra 1, aI E 6 (fun j => S j 0)), (ra 2, aI E 6 (fun j => S j 1)), (ra 3, aI E 6 (fun j => S j 2)), (ra 7, aI E 6 (fun j => g j 4)), (ra 8, aI E 6 (fun j => g j 5)), (ra 9, aI E 6 (fun j => g j 6)), (ra 10, aI E 6 (fun j => g j 10)), (ra 26, aI E 200 lt), (ra 27, aI E 200 bo), (ra 28, aI E 200 wg), (ra 23, aI E 8 ld)] (fun r u => ∃ (x : Int), ∃ (g' : Int → Int → Int), ∃ (so' : Int), ∃ (ta' : Int), ∃ (go' : Int), ∃ (sl' : Int), ∃ (ld' : Int → Int), ∃ (ti' : Int), ∃ (cn' : Int), ∃ (bo' : Int → Int), ∃ (lt' : Int → Int), ∃ (wg' : Int → Int), sp_ticks mm lo nf fm fa fb S n ti x (g, so, ta, go, sl, ld, ti, cn, bo, lt, wg) (g', so', ta', go', sl', ld', ti', cn', bo', lt', wg') ∧ ((∀ j, 0 ≤ j → j < 6 → kOk ti' (g' j)) ∧ (∀ j, 0 ≤ j → j < 6 → g' j 0 ≤ S j 3) ∧ (0 ≤ so' ∧ so' ≤ 100000) ∧ (0 ≤ go' ∧ go' ≤ ti') ∧ (0 ≤ ti' ∧ ti' ≤ 10000) ∧ (0 ≤ cn' ∧ cn' ≤ 200)) ∧ r = iI x ∧ u = [(m0, oo 7 (fMo ra mm nf ti' so' ta' go' sl' lo cn' lx ly pm pi)), (ra 6, aI E 6 (fun j => g' j 9)), (ra 15, aI E 8 fm), (ra 16, aI E 8 fa), (ra 17, aI E 8 fb), (ra 12, aI E 6 (fun j => g' j 7)), (ra 13, aI E 6 (fun j => g' j 8)), (ra 11, aI E 6 (fun j => wkOf (g' j))), (ra 5, aI E 6 (fun j => g' j 0)), (ra 4, aI E 6 (fun j => S j 3)), (ra 1, aI E 6 (fun j => S j 0)), (ra 2, aI E 6 (fun j => S j 1)), (ra 3, aI E 6 (fun j => S j 2)), (ra 7, aI E 6 (fun j => g' j 4)), (ra 8, aI E 6 (fun j => g' j 5)), (ra 9, aI E 6 (fun j => g' j 6)), (ra 10, aI E 6 (fun j => g' j 10)), (ra 26, aI E 200 lt'), (ra 27, aI E 200 bo'), (ra 28, aI E 200 wg'), (ra 23, aI E 8 ld')]) := by
  refine MI.of (cc := cX7_ticks) (maxL := 3) (own := RX7) (by decide) rfl rfl rfl (Nat.le_of_ble_eq_true rfl) [(0, .ref m0), (1, .int (iI n))] rfl ?_
  intro X hin2 hRet
  refine g_iload_n 1 dX7_ticks_0 rfl rfl ?_
  refine g_iconst dX7_ticks_1 ?_
  refine g_sipush dX7_ticks_2 rfl ?_
  refine g_callS_i (n := 3) (As := [.int (iI n), .int (iI 1), .int (iI 500)]) (wr := [(m0, oo 7 (fMo ra mm nf ti so ta go sl lo cn lx ly pm pi)), (ra 6, aI E 6 (fun j => g j 9)), (ra 15, aI E 8 fm), (ra 16, aI E 8 fa), (ra 17, aI E 8 fb), (ra 12, aI E 6 (fun j => g j 7)), (ra 13, aI E 6 (fun j => g j 8)), (ra 11, aI E 6 (fun j => wkOf (g j))), (ra 5, aI E 6 (fun j => g j 0)), (ra 4, aI E 6 (fun j => S j 3)), (ra 1, aI E 6 (fun j => S j 0)), (ra 2, aI E 6 (fun j => S j 1)), (ra 3, aI E 6 (fun j => S j 2)), (ra 7, aI E 6 (fun j => g j 4)), (ra 8, aI E 6 (fun j => g j 5)), (ra 9, aI E 6 (fun j => g j 6)), (ra 10, aI E 6 (fun j => g j 10)), (ra 26, aI E 200 lt), (ra 27, aI E 200 bo), (ra 28, aI E 200 wg), (ra 23, aI E 8 ld)]) [] (c_X7_in E n 1 500 (by omega) (by omega) (by omega)) [] [0, 1, 2, 3, 4, 5, 6, 7, 8, 9, 10, 11, 12, 13, 14, 15, 16, 17, 18, 19, 20] gX7_ticks_X7_in rfl ⟨rfl, by decide +kernel⟩ ⟨by decide, by decide⟩ rfl rfl rfl rfl rfl (by decide) rfl (by decide) (by decide) (fun _ h => absurd h List.not_mem_nil) dX7_ticks_5 rfl (Nat.le_of_ble_eq_true rfl) ⟨by decide, by decide⟩ (fun r u p_1 => ?_)
  obtain ⟨rfl, rfl⟩ := p_1
  refine g_perm (ws1 := [(m0, oo 7 (fMo ra mm nf ti so ta go sl lo cn lx ly pm pi)), (ra 6, aI E 6 (fun j => g j 9)), (ra 15, aI E 8 fm), (ra 16, aI E 8 fa), (ra 17, aI E 8 fb), (ra 12, aI E 6 (fun j => g j 7)), (ra 13, aI E 6 (fun j => g j 8)), (ra 11, aI E 6 (fun j => wkOf (g j))), (ra 5, aI E 6 (fun j => g j 0)), (ra 4, aI E 6 (fun j => S j 3)), (ra 1, aI E 6 (fun j => S j 0)), (ra 2, aI E 6 (fun j => S j 1)), (ra 3, aI E 6 (fun j => S j 2)), (ra 7, aI E 6 (fun j => g j 4)), (ra 8, aI E 6 (fun j => g j 5)), (ra 9, aI E 6 (fun j => g j 6)), (ra 10, aI E 6 (fun j => g j 10)), (ra 26, aI E 200 lt), (ra 27, aI E 200 bo), (ra 28, aI E 200 wg), (ra 23, aI E 8 ld)]) [0, 1, 2, 3, 4, 5, 6, 7, 8, 9, 10, 11, 12, 13, 14, 15, 16, 17, 18, 19, 20] rfl (by decide) rfl ?_
  refine g_if_ne_b (tgt := 13) dX7_ticks_8 rfl (fun c_2 => ?_) (fun c_2 => ?_)
  · refine g_aload_n 0 dX7_ticks_13 rfl rfl ?_
    refine g_get (C := RX7) (T := TX7) (N := 43) 0 18 (fun _ h => List.mem_cons_of_mem _ (List.mem_append_right _ h)) (List.mem_of_getElem? (i := 1) rfl) rfl rfl (by decide) rfl rfl dX7_ticks_14 ?_
    refine g_iload_n 1 dX7_ticks_17 rfl rfl ?_
    refine g_iadd dX7_ticks_18 ?_
    refine g_sipush dX7_ticks_19 rfl ?_
    refine g_icmp_le (tgt := 28) (by unfold R32; omega) (by unfold R32; omega) dX7_ticks_22 rfl (fun c_3 => ?_) (fun c_3 => ?_)
    · refine g_iconst dX7_ticks_28 ?_
      refine g_istore_n (lv1 := [(2, .int (iI 0)), (0, .ref m0), (1, .int (iI n))]) dX7_ticks_29 rfl (by decide) rfl ?_
      refine g_lv (lv1 := [(0, .ref m0), (1, .int (iI n)), (2, .int (iI 0))]) [1, 2, 0] rfl ?_
      have L30 : ∀ (nn : Nat) (i : Int) (g1 : Int → Int → Int) (so1 : Int) (ta1 : Int) (go1 : Int) (sl1 : Int) (ld1 : Int → Int) (ti1 : Int) (cn1 : Int) (bo1 : Int → Int) (lt1 : Int → Int) (wg1 : Int → Int) (hi : 0 ≤ i ∧ i ≤ n) (hti1 : ti1 = ti + i) (hK : ∀ s' : LSt, sTicks mm lo nf fm fa fb S (n - i).toNat (g1, so1, ta1, go1, sl1, ld1, ti1, cn1, bo1, lt1, wg1) s' → sTicks mm lo nf fm fa fb S n.toNat (g, so, ta, go, sl, ld, ti, cn, bo, lt, wg) s') (hG : (∀ j, 0 ≤ j → j < 6 → kOk ti1 (g1 j)) ∧ (∀ j, 0 ≤ j → j < 6 → g1 j 0 ≤ S j 3) ∧ (0 ≤ so1 ∧ so1 ≤ 100000) ∧ (0 ≤ go1 ∧ go1 ≤ ti1) ∧ (0 ≤ ti1 ∧ ti1 ≤ 10000) ∧ (0 ≤ cn1 ∧ cn1 ≤ 200)) (hm : n - i < (nn : Int)), G X ({ frames := 4, cells := 0, slots := 0, locals := 87 } : Room) cX7_ticks 3 RX7 wsX7_ticks E [] 0 0 [(m0, oo 7 (fMo ra mm nf ti1 so1 ta1 go1 sl1 lo cn1 lx ly pm pi)), (ra 6, aI E 6 (fun j => g1 j 9)), (ra 15, aI E 8 fm), (ra 16, aI E 8 fa), (ra 17, aI E 8 fb), (ra 12, aI E 6 (fun j => g1 j 7)), (ra 13, aI E 6 (fun j => g1 j 8)), (ra 11, aI E 6 (fun j => wkOf (g1 j))), (ra 5, aI E 6 (fun j => g1 j 0)), (ra 4, aI E 6 (fun j => S j 3)), (ra 1, aI E 6 (fun j => S j 0)), (ra 2, aI E 6 (fun j => S j 1)), (ra 3, aI E 6 (fun j => S j 2)), (ra 7, aI E 6 (fun j => g1 j 4)), (ra 8, aI E 6 (fun j => g1 j 5)), (ra 9, aI E 6 (fun j => g1 j 6)), (ra 10, aI E 6 (fun j => g1 j 10)), (ra 26, aI E 200 lt1), (ra 27, aI E 200 bo1), (ra 28, aI E 200 wg1), (ra 23, aI E 8 ld1)] [(0, .ref m0), (1, .int (iI n)), (2, .int (iI i))] 30 [] := by
        intro nn
        induction nn with
        | zero => intro i g1 so1 ta1 go1 sl1 ld1 ti1 cn1 bo1 lt1 wg1 hi hti1 hK hG hm; exfalso; omega
        | succ nn ih30 =>
          intro i g1 so1 ta1 go1 sl1 ld1 ti1 cn1 bo1 lt1 wg1 hi hti1 hK hG hm
          refine g_iload_n 2 dX7_ticks_30 rfl rfl ?_
          refine g_iload_n 1 dX7_ticks_31 rfl rfl ?_
          refine g_icmp_ge (tgt := 45) (by unfold R32; omega) (by unfold R32; omega) dX7_ticks_32 rfl (fun c_4 => ?_) (fun c_4 => ?_)
          · refine g_aload_n 0 dX7_ticks_45 rfl rfl ?_
            refine g_get (C := RX7) (T := TX7) (N := 43) 0 18 (fun _ h => List.mem_cons_of_mem _ (List.mem_append_right _ h)) (List.mem_of_getElem? (i := 1) rfl) rfl rfl (by decide) rfl rfl dX7_ticks_46 ?_
            exact g_iret hRet dX7_ticks_49 rfl ⟨ti1, g1, so1, ta1, go1, sl1, ld1, ti1, cn1, bo1, lt1, wg1, (by unfold sp_ticks; rw [if_neg (by omega), if_neg (by omega)]; refine ⟨by omega, hK _ ?_⟩; rw [show (n - i).toNat = 0 by omega]; rfl), (by exact hG), rfl, rfl⟩
          · refine g_aload_n 0 dX7_ticks_35 rfl rfl ?_
            refine g_callV_v (n := 0) (As := []) (wr := []) (C := RX7) [] (c_X7_passes E m0 ra mm nf ti1 so1 ta1 go1 sl1 lo cn1 lx ly pm pi g1 S fm fa fb lt1 bo1 wg1 ld1 (by omega) (by omega) (by omega) (by omega) (by omega) (by omega) (by omega) (by exact hfm) (by exact hfa) (by exact hfb) (by omega) (by omega) (by exact hG.1) (by exact hS) (by exact hG.2.1)) [0, 1, 2, 3, 4, 5, 6, 7, 8, 9, 10, 11, 12, 13, 14, 15, 16, 17, 18, 19, 20] [] 0 rfl rfl gX7_ticks_X7_passes rfl ⟨rfl, by decide +kernel⟩ ⟨by decide, by decide⟩ rfl rfl rfl rfl rfl (by decide) rfl (by decide) (by decide) (fun _ h => absurd h List.not_mem_nil) dX7_ticks_36 rfl (Nat.le_of_ble_eq_true rfl) ⟨by decide, by decide⟩ (fun u p_5 => ?_)
            obtain ⟨gg, sos, tas, gos, sls, lds, cns, bos, lts, wgs, fe1, fe2, rfl⟩ := p_5
            refine g_iinc (lv1 := [(2, .int (iI (i + 1))), (0, .ref m0), (1, .int (iI n))]) 2 dX7_ticks_39 rfl (by decide) rfl ?_
            refine g_goto (tgt := 30) dX7_ticks_42 rfl ?_
            refine g_lv (lv1 := [(0, .ref m0), (1, .int (iI n)), (2, .int (iI (i + 1)))]) [1, 2, 0] rfl ?_
            exact ih30 (i + 1) gg sos tas gos sls lds (ti1 + 1) cns bos lts wgs (by omega) (by omega) (by intro s' h; apply hK; rw [show (n - i).toNat = (n - (i + 1)).toNat + 1 by omega]; exact sTicks_s fe1 h) (by exact ⟨fe2.1, fe2.2.1, fe2.2.2.1, fe2.2.2.2.1, by omega, fe2.2.2.2.2⟩) (by omega)
      exact L30 _ 0 g so ta go sl ld ti cn bo lt wg (by omega) (by omega) (by intro s' h; rw [show n - 0 = n by omega] at h; exact h) (by exact ⟨hgk, hgs, hso, ⟨hgo.1, hgo2⟩, hti, hcn⟩) (lt_nn _)
    · refine g_bipush dX7_ticks_25 rfl ?_
      exact g_iret hRet dX7_ticks_27 rfl ⟨(-3), g, so, ta, go, sl, ld, ti, cn, bo, lt, wg, (by unfold sp_ticks; rw [if_neg (by omega), if_pos (by omega)]; exact ⟨rfl, rfl⟩), (by exact ⟨hgk, hgs, hso, ⟨hgo.1, hgo2⟩, hti, hcn⟩), rfl, rfl⟩
  · refine g_iconst dX7_ticks_11 ?_
    exact g_iret hRet dX7_ticks_12 rfl ⟨(-1), g, so, ta, go, sl, ld, ti, cn, bo, lt, wg, (by unfold sp_ticks; rw [if_pos (by omega)]; exact ⟨rfl, rfl⟩), (by exact ⟨hgk, hgs, hso, ⟨hgo.1, hgo2⟩, hti, hcn⟩), rfl, rfl⟩

theorem colU (S : Int → Int → Int) (i : Int) (c : Int → Int) (f : Int) : (fun j => ug S i c j f) = up (fun j => S j f) i (c f) := by
  funext j
  show (if j = i then c else S j) f = _
  unfold up
  split <;> rfl
theorem mLo_v (k : Int) : (k = 0 ∨ k = 3 → mLo k = 1) ∧ (¬ (k = 0 ∨ k = 3) → mLo k = 0) := ⟨fun h => if_pos h, fun h => if_neg h⟩
theorem mHi_v (k : Int) : (k = 0 → mHi k = 5) ∧ (k = 3 → mHi k = 20) ∧ (k ≠ 0 ∧ k ≠ 3 → mHi k = 99) := by
  refine ⟨fun h => if_pos h, fun h => ?_, fun h => ?_⟩
  · unfold mHi; rw [if_neg (by omega), if_pos h]
  · unfold mHi; rw [if_neg (by omega), if_neg (by omega)]

set_option maxHeartbeats 4000000 in
set_option maxRecDepth 100000 in
theorem c_X7_set (E : Ev) (m0 : Nat) (ra : Nat → Nat) (mm : Int) (nf : Int) (ti : Int) (so : Int) (ta : Int) (go : Int) (sl : Int) (lo : Int) (cn : Int) (lx : Int) (ly : Int) (pm : Int) (pi : Int) (g : Int → Int → Int) (S : Int → Int → Int) (i : Int) (what : Int) (v : Int) (hM : 2 ≤ mm ∧ mm ≤ 6) (hti : 0 ≤ ti ∧ ti ≤ 10000) (hso : 0 ≤ so ∧ so ≤ 100000) (hgo : 0 ≤ go ∧ go ≤ 20000) (hcn : 0 ≤ cn ∧ cn ≤ 200) (hlo : 0 ≤ lo ∧ lo ≤ 15) (hgr : ∀ j, 0 ≤ j → j < 6 → 0 ≤ g j 0 ∧ g j 0 ≤ 20) (h_i : -2147483648 ≤ i ∧ i ≤ 2147483647) (h_what : -2147483648 ≤ what ∧ what ≤ 2147483647) (h_v : -2147483648 ≤ v ∧ v ≤ 2147483647) : MI yX7_set wsX7_set ({ frames := 2, cells := 0, slots := 0, locals := 43 } : Room) E [] 0 0 [.ref m0, .int (iI i), .int (iI what), .int (iI v)] [(m0, oo 7 (fMo ra mm nf ti so ta go sl lo cn lx ly pm pi)), (ra 1, aI E 6 (fun j => S j 0)), (ra 2, aI E 6 (fun j => S j 1)), (ra 3, aI E 6 (fun j => S j 2)), (ra 4, aI E 6 (fun j => S j 3)), (ra 5, aI E 6 (fun j => g j 0))] (fun r u => ∃ (x : Int), ∃ (S' : Int → Int → Int), sp_set mm g S i what v x S' ∧ r = iI x ∧ u = [(m0, oo 7 (fMo ra mm nf ti so ta go sl lo cn lx ly pm pi)), (ra 1, aI E 6 (fun j => S' j 0)), (ra 2, aI E 6 (fun j => S' j 1)), (ra 3, aI E 6 (fun j => S' j 2)), (ra 4, aI E 6 (fun j => S' j 3)), (ra 5, aI E 6 (fun j => g j 0))]) := by
  refine MI.of (cc := cX7_set) (maxL := 5) (own := RX7) (by decide) rfl rfl rfl (Nat.le_of_ble_eq_true rfl) [(0, .ref m0), (1, .int (iI i)), (2, .int (iI what)), (3, .int (iI v))] rfl ?_
  intro X hin2 hRet
  have qL := mLo_v what
  have qH := mHi_v what
  refine g_aload_n 0 dX7_set_0 rfl rfl ?_
  refine g_iload_n 1 dX7_set_1 rfl rfl ?_
  refine g_callV_i (n := 1) (As := [.int (iI i)]) (wr := [(ra 1, aI E 6 (fun j => S j 0)), (ra 2, aI E 6 (fun j => S j 1)), (ra 3, aI E 6 (fun j => S j 2)), (ra 4, aI E 6 (fun j => S j 3)), (ra 5, aI E 6 (fun j => g j 0))]) (C := RX7) [] (c_X7_isMachine E m0 ra mm nf ti so ta go sl lo cn lx ly pm pi i (by omega) (by omega) (by omega) (by omega) (by omega) (by omega) (by omega)) [0] [1, 2, 3, 4, 5] 0 rfl rfl gX7_set_X7_isMachine rfl ⟨rfl, by decide +kernel⟩ ⟨by decide, by decide⟩ rfl rfl rfl rfl rfl (by decide) rfl (by decide) (by decide) (fun _ h => absurd h List.not_mem_nil) dX7_set_2 rfl (Nat.le_of_ble_eq_true rfl) ⟨by decide, by decide⟩ (fun r u p_1 => ?_)
  obtain ⟨rfl, rfl⟩ := p_1
  refine g_perm (ws1 := [(m0, oo 7 (fMo ra mm nf ti so ta go sl lo cn lx ly pm pi)), (ra 1, aI E 6 (fun j => S j 0)), (ra 2, aI E 6 (fun j => S j 1)), (ra 3, aI E 6 (fun j => S j 2)), (ra 4, aI E 6 (fun j => S j 3)), (ra 5, aI E 6 (fun j => g j 0))]) [5, 0, 1, 2, 3, 4] rfl (by decide) rfl ?_
  refine g_if_eq_b (tgt := 73) dX7_set_5 rfl (fun c_2 => ?_) (fun c_2 => ?_)
  · refine g_iload_n 2 dX7_set_8 rfl rfl ?_
    refine g_iconst dX7_set_9 ?_
    refine g_iconst dX7_set_10 ?_
    refine g_callS_i (n := 3) (As := [.int (iI what), .int (iI 0), .int (iI 3)]) (wr := [(m0, oo 7 (fMo ra mm nf ti so ta go sl lo cn lx ly pm pi)), (ra 1, aI E 6 (fun j => S j 0)), (ra 2, aI E 6 (fun j => S j 1)), (ra 3, aI E 6 (fun j => S j 2)), (ra 4, aI E 6 (fun j => S j 3)), (ra 5, aI E 6 (fun j => g j 0))]) [] (c_X7_in E what 0 3 (by omega) (by omega) (by omega)) [] [0, 1, 2, 3, 4, 5] gX7_set_X7_in rfl ⟨rfl, by decide +kernel⟩ ⟨by decide, by decide⟩ rfl rfl rfl rfl rfl (by decide) rfl (by decide) (by decide) (fun _ h => absurd h List.not_mem_nil) dX7_set_11 rfl (Nat.le_of_ble_eq_true rfl) ⟨by decide, by decide⟩ (fun r u p_3 => ?_)
    obtain ⟨rfl, rfl⟩ := p_3
    refine g_perm (ws1 := [(m0, oo 7 (fMo ra mm nf ti so ta go sl lo cn lx ly pm pi)), (ra 1, aI E 6 (fun j => S j 0)), (ra 2, aI E 6 (fun j => S j 1)), (ra 3, aI E 6 (fun j => S j 2)), (ra 4, aI E 6 (fun j => S j 3)), (ra 5, aI E 6 (fun j => g j 0))]) [0, 1, 2, 3, 4, 5] rfl (by decide) rfl ?_
    refine g_if_eq_b (tgt := 73) dX7_set_14 rfl (fun c_4 => ?_) (fun c_4 => ?_)
    · refine g_iload_n 2 dX7_set_17 rfl rfl ?_
      refine g_iconst dX7_set_18 ?_
      refine g_icmp_ne (tgt := 32) (by unfold R32; omega) (by unfold R32; omega) dX7_set_19 rfl (fun c_5 => ?_) (fun c_5 => ?_)
      · refine g_iload_n 1 dX7_set_22 rfl rfl ?_
        refine g_aload_n 0 dX7_set_23 rfl rfl ?_
        refine g_get (C := RX7) (T := TX7) (N := 43) 0 0 (fun _ h => List.mem_cons_of_mem _ (List.mem_append_right _ h)) (List.mem_of_getElem? (i := 1) rfl) rfl rfl (by decide) rfl rfl dX7_set_24 ?_
        refine g_iconst dX7_set_27 ?_
        refine g_isub dX7_set_28 ?_
        refine g_icmp_eq (tgt := 73) (by unfold R32; omega) (by unfold R32; omega) dX7_set_29 rfl (fun c_6 => ?_) (fun c_6 => ?_)
        · refine g_iconst dX7_set_73 ?_
          exact g_iret hRet dX7_set_74 rfl ⟨(-1), S, (by unfold sp_set; rw [if_pos (by omega)]; exact ⟨rfl, rfl⟩), rfl, rfl⟩
        · refine g_iload_n 3 dX7_set_32 rfl rfl ?_
          refine g_iload_n 2 dX7_set_33 rfl rfl ?_
          refine g_if_eq (tgt := 42) (by unfold R32; omega) dX7_set_34 rfl (fun c_7 => ?_) (fun c_7 => ?_)
          · exact absurd (c_5.symm.trans (by assumption)) (by decide)
          · refine g_iload_n 2 dX7_set_37 rfl rfl ?_
            refine g_iconst dX7_set_38 ?_
            refine g_icmp_ne (tgt := 46) (by unfold R32; omega) (by unfold R32; omega) dX7_set_39 rfl (fun c_8 => ?_) (fun c_8 => ?_)
            · refine g_iconst dX7_set_42 ?_
              refine g_goto (tgt := 47) dX7_set_43 rfl ?_
              refine g_iload_n 2 dX7_set_47 rfl rfl ?_
              refine g_if_ne (tgt := 55) (by unfold R32; omega) dX7_set_48 rfl (fun c_9 => ?_) (fun c_9 => ?_)
              · exact absurd (by assumption) c_7
              · refine g_iload_n 2 dX7_set_55 rfl rfl ?_
                refine g_iconst dX7_set_56 ?_
                refine g_icmp_ne (tgt := 65) (by unfold R32; omega) (by unfold R32; omega) dX7_set_57 rfl (fun c_10 => ?_) (fun c_10 => ?_)
                · refine g_bipush dX7_set_60 rfl ?_
                  refine g_goto (tgt := 67) dX7_set_62 rfl ?_
                  refine g_callS_i (n := 3) (As := [.int (iI v), .int (iI 1), .int (iI 20)]) (wr := [(m0, oo 7 (fMo ra mm nf ti so ta go sl lo cn lx ly pm pi)), (ra 1, aI E 6 (fun j => S j 0)), (ra 2, aI E 6 (fun j => S j 1)), (ra 3, aI E 6 (fun j => S j 2)), (ra 4, aI E 6 (fun j => S j 3)), (ra 5, aI E 6 (fun j => g j 0))]) [] (c_X7_in E v 1 20 (by omega) (by omega) (by omega)) [] [0, 1, 2, 3, 4, 5] gX7_set_X7_in rfl ⟨rfl, by decide +kernel⟩ ⟨by decide, by decide⟩ rfl rfl rfl rfl rfl (by decide) rfl (by decide) (by decide) (fun _ h => absurd h List.not_mem_nil) dX7_set_67 rfl (Nat.le_of_ble_eq_true rfl) ⟨by decide, by decide⟩ (fun r u p_11 => ?_)
                  obtain ⟨rfl, rfl⟩ := p_11
                  refine g_perm (ws1 := [(m0, oo 7 (fMo ra mm nf ti so ta go sl lo cn lx ly pm pi)), (ra 1, aI E 6 (fun j => S j 0)), (ra 2, aI E 6 (fun j => S j 1)), (ra 3, aI E 6 (fun j => S j 2)), (ra 4, aI E 6 (fun j => S j 3)), (ra 5, aI E 6 (fun j => g j 0))]) [0, 1, 2, 3, 4, 5] rfl (by decide) rfl ?_
                  refine g_if_ne_b (tgt := 75) dX7_set_70 rfl (fun c_12 => ?_) (fun c_12 => ?_)
                  · refine g_iload_n 2 dX7_set_75 rfl rfl ?_
                    refine g_iconst dX7_set_76 ?_
                    refine g_icmp_ne (tgt := 93) (by unfold R32; omega) (by unfold R32; omega) dX7_set_77 rfl (fun c_13 => ?_) (fun c_13 => ?_)
                    · refine g_aload_n 0 dX7_set_80 rfl rfl ?_
                      refine g_get (C := RX7) (T := TX7) (N := 43) 0 5 (fun _ h => List.mem_cons_of_mem _ (List.mem_append_right _ h)) (List.mem_of_getElem? (i := 2) rfl) rfl rfl (by decide) rfl rfl dX7_set_81 ?_
                      refine g_iload_n 1 dX7_set_84 rfl rfl ?_
                      refine g_iald 5 dX7_set_85 rfl (by decide) (by omega) (by omega) ?_
                      refine g_top (y := iI (g i 0)) rfl ?_
                      refine g_iload_n 3 dX7_set_86 rfl rfl ?_
                      refine g_icmp_le (tgt := 93) (by have q9 := hgr i (by omega) (by omega); unfold R32; omega) (by have q9 := hgr i (by omega) (by omega); unfold R32; omega) dX7_set_87 rfl (fun c_14 => ?_) (fun c_14 => ?_)
                      · refine g_iload_n 2 dX7_set_93 rfl rfl ?_
                        refine g_if_ne (tgt := 106) (by unfold R32; omega) dX7_set_94 rfl (fun c_15 => ?_) (fun c_15 => ?_)
                        · exact absurd (by assumption) c_9
                        · refine g_iload_n 2 dX7_set_106 rfl rfl ?_
                          refine g_iconst dX7_set_107 ?_
                          refine g_icmp_ne (tgt := 120) (by unfold R32; omega) (by unfold R32; omega) dX7_set_108 rfl (fun c_16 => ?_) (fun c_16 => ?_)
                          · exact absurd (c_13.symm.trans (by assumption)) (by decide)
                          · refine g_iload_n 2 dX7_set_120 rfl rfl ?_
                            refine g_iconst dX7_set_121 ?_
                            refine g_icmp_ne (tgt := 134) (by unfold R32; omega) (by unfold R32; omega) dX7_set_122 rfl (fun c_17 => ?_) (fun c_17 => ?_)
                            · exact absurd (c_13.symm.trans (by assumption)) (by decide)
                            · refine g_aload_n 0 dX7_set_134 rfl rfl ?_
                              refine g_get (C := RX7) (T := TX7) (N := 43) 0 4 (fun _ h => List.mem_cons_of_mem _ (List.mem_append_right _ h)) (List.mem_of_getElem? (i := 6) rfl) rfl rfl (by decide) rfl rfl dX7_set_135 ?_
                              refine g_iload_n 1 dX7_set_138 rfl rfl ?_
                              refine g_iald 4 dX7_set_139 rfl (by decide) (by omega) (by omega) ?_
                              refine g_top (y := iI (S i 3)) rfl ?_
                              refine g_istore (lv1 := [(4, .int (iI (S i 3))), (0, .ref m0), (1, .int (iI i)), (2, .int (iI what)), (3, .int (iI v))]) dX7_set_140 (by decide) rfl ?_
                              refine g_aload_n 1 dX7_set_142 rfl rfl ?_
                              refine g_get (C := RX7) (T := TX7) (N := 43) 0 1 (fun _ h => List.mem_cons_of_mem _ (List.mem_append_right _ h)) (List.mem_of_getElem? (i := 3) rfl) rfl rfl (by decide) rfl rfl dX7_set_143 ?_
                              refine g_iload_n 2 dX7_set_146 rfl rfl ?_
                              refine g_iload_n 3 dX7_set_147 rfl rfl ?_
                              refine g_if_ne (tgt := 155) (by unfold R32; omega) dX7_set_148 rfl (fun c_18 => ?_) (fun c_18 => ?_)
                              · exact absurd (by assumption) c_15
                              · refine g_aload_n 1 dX7_set_155 rfl rfl ?_
                                refine g_get (C := RX7) (T := TX7) (N := 43) 0 1 (fun _ h => List.mem_cons_of_mem _ (List.mem_append_right _ h)) (List.mem_of_getElem? (i := 3) rfl) rfl rfl (by decide) rfl rfl dX7_set_156 ?_
                                refine g_iload_n 2 dX7_set_159 rfl rfl ?_
                                refine g_iald 1 dX7_set_160 rfl (by decide) (by omega) (by omega) ?_
                                refine g_top (y := iI (S i 0)) rfl ?_
                                refine g_iast (ws1 := [(m0, oo 7 (fMo ra mm nf ti so ta go sl lo cn lx ly pm pi)), (ra 1, aI E 6 (up (fun j => S j 0) i (S i 0))), (ra 2, aI E 6 (fun j => S j 1)), (ra 3, aI E 6 (fun j => S j 2)), (ra 4, aI E 6 (fun j => S j 3)), (ra 5, aI E 6 (fun j => g j 0))]) 1 dX7_set_161 rfl rfl (by decide) (by omega) (by omega) ?_
                                refine g_aload_n 1 dX7_set_162 rfl rfl ?_
                                refine g_get (C := RX7) (T := TX7) (N := 43) 0 2 (fun _ h => List.mem_cons_of_mem _ (List.mem_append_right _ h)) (List.mem_of_getElem? (i := 4) rfl) rfl rfl (by decide) rfl rfl dX7_set_163 ?_
                                refine g_iload_n 2 dX7_set_166 rfl rfl ?_
                                refine g_iload_n 3 dX7_set_167 rfl rfl ?_
                                refine g_iconst dX7_set_168 ?_
                                refine g_icmp_ne (tgt := 176) (by unfold R32; omega) (by unfold R32; omega) dX7_set_169 rfl (fun c_19 => ?_) (fun c_19 => ?_)
                                · exact absurd (by assumption) c_16
                                · refine g_aload_n 1 dX7_set_176 rfl rfl ?_
                                  refine g_get (C := RX7) (T := TX7) (N := 43) 0 2 (fun _ h => List.mem_cons_of_mem _ (List.mem_append_right _ h)) (List.mem_of_getElem? (i := 4) rfl) rfl rfl (by decide) rfl rfl dX7_set_177 ?_
                                  refine g_iload_n 2 dX7_set_180 rfl rfl ?_
                                  refine g_iald 2 dX7_set_181 rfl (by decide) (by omega) (by omega) ?_
                                  refine g_top (y := iI (S i 1)) rfl ?_
                                  refine g_iast (ws1 := [(m0, oo 7 (fMo ra mm nf ti so ta go sl lo cn lx ly pm pi)), (ra 1, aI E 6 (up (fun j => S j 0) i (S i 0))), (ra 2, aI E 6 (up (fun j => S j 1) i (S i 1))), (ra 3, aI E 6 (fun j => S j 2)), (ra 4, aI E 6 (fun j => S j 3)), (ra 5, aI E 6 (fun j => g j 0))]) 2 dX7_set_182 rfl rfl (by decide) (by omega) (by omega) ?_
                                  refine g_aload_n 1 dX7_set_183 rfl rfl ?_
                                  refine g_get (C := RX7) (T := TX7) (N := 43) 0 3 (fun _ h => List.mem_cons_of_mem _ (List.mem_append_right _ h)) (List.mem_of_getElem? (i := 5) rfl) rfl rfl (by decide) rfl rfl dX7_set_184 ?_
                                  refine g_iload_n 2 dX7_set_187 rfl rfl ?_
                                  refine g_iload_n 3 dX7_set_188 rfl rfl ?_
                                  refine g_iconst dX7_set_189 ?_
                                  refine g_icmp_ne (tgt := 197) (by unfold R32; omega) (by unfold R32; omega) dX7_set_190 rfl (fun c_20 => ?_) (fun c_20 => ?_)
                                  · exact absurd (by assumption) c_17
                                  · refine g_aload_n 1 dX7_set_197 rfl rfl ?_
                                    refine g_get (C := RX7) (T := TX7) (N := 43) 0 3 (fun _ h => List.mem_cons_of_mem _ (List.mem_append_right _ h)) (List.mem_of_getElem? (i := 5) rfl) rfl rfl (by decide) rfl rfl dX7_set_198 ?_
                                    refine g_iload_n 2 dX7_set_201 rfl rfl ?_
                                    refine g_iald 3 dX7_set_202 rfl (by decide) (by omega) (by omega) ?_
                                    refine g_top (y := iI (S i 2)) rfl ?_
                                    refine g_iast (ws1 := [(m0, oo 7 (fMo ra mm nf ti so ta go sl lo cn lx ly pm pi)), (ra 1, aI E 6 (up (fun j => S j 0) i (S i 0))), (ra 2, aI E 6 (up (fun j => S j 1) i (S i 1))), (ra 3, aI E 6 (up (fun j => S j 2) i (S i 2))), (ra 4, aI E 6 (fun j => S j 3)), (ra 5, aI E 6 (fun j => g j 0))]) 3 dX7_set_203 rfl rfl (by decide) (by omega) (by omega) ?_
                                    refine g_aload_n 1 dX7_set_204 rfl rfl ?_
                                    refine g_get (C := RX7) (T := TX7) (N := 43) 0 4 (fun _ h => List.mem_cons_of_mem _ (List.mem_append_right _ h)) (List.mem_of_getElem? (i := 6) rfl) rfl rfl (by decide) rfl rfl dX7_set_205 ?_
                                    refine g_iload_n 2 dX7_set_208 rfl rfl ?_
                                    refine g_iload_n 3 dX7_set_209 rfl rfl ?_
                                    refine g_iconst dX7_set_210 ?_
                                    refine g_icmp_ne (tgt := 218) (by unfold R32; omega) (by unfold R32; omega) dX7_set_211 rfl (fun c_21 => ?_) (fun c_21 => ?_)
                                    · refine g_iload_n 4 dX7_set_214 rfl rfl ?_
                                      refine g_goto (tgt := 224) dX7_set_215 rfl ?_
                                      refine g_iast (ws1 := [(m0, oo 7 (fMo ra mm nf ti so ta go sl lo cn lx ly pm pi)), (ra 1, aI E 6 (up (fun j => S j 0) i (S i 0))), (ra 2, aI E 6 (up (fun j => S j 1) i (S i 1))), (ra 3, aI E 6 (up (fun j => S j 2) i (S i 2))), (ra 4, aI E 6 (up (fun j => S j 3) i v)), (ra 5, aI E 6 (fun j => g j 0))]) 4 dX7_set_224 rfl rfl (by decide) (by omega) (by omega) ?_
                                      have hC_22 : (fun j => ug S i (up (S i) what v) j 0) = (up (fun j => S j 0) i (S i 0)) := by first | (exfalso; omega) | (rw [colU]; congr 1; unfold up; first | rw [if_pos (by omega)] | rw [if_neg (by omega)])
                                      have hC_23 : (fun j => ug S i (up (S i) what v) j 1) = (up (fun j => S j 1) i (S i 1)) := by first | (exfalso; omega) | (rw [colU]; congr 1; unfold up; first | rw [if_pos (by omega)] | rw [if_neg (by omega)])
                                      have hC_24 : (fun j => ug S i (up (S i) what v) j 2) = (up (fun j => S j 2) i (S i 2)) := by first | (exfalso; omega) | (rw [colU]; congr 1; unfold up; first | rw [if_pos (by omega)] | rw [if_neg (by omega)])
                                      have hC_25 : (fun j => ug S i (up (S i) what v) j 3) = (up (fun j => S j 3) i v) := by first | (exfalso; omega) | (rw [colU]; congr 1; unfold up; first | rw [if_pos (by omega)] | rw [if_neg (by omega)])
                                      refine g_as (ws1 := [(m0, oo 7 (fMo ra mm nf ti so ta go sl lo cn lx ly pm pi)), (ra 1, aI E 6 (fun j => ug S i (up (S i) what v) j 0)), (ra 2, aI E 6 (fun j => ug S i (up (S i) what v) j 1)), (ra 3, aI E 6 (fun j => ug S i (up (S i) what v) j 2)), (ra 4, aI E 6 (fun j => ug S i (up (S i) what v) j 3)), (ra 5, aI E 6 (fun j => g j 0))]) ?_ (by rw [hC_22, hC_23, hC_24, hC_25]) rfl rfl
                                      refine g_iload 0 dX7_set_225 rfl ?_
                                      exact g_iret hRet dX7_set_227 rfl ⟨(S i 3), (ug S i (up (S i) what v)), (by unfold sp_set; rw [if_neg (by omega), if_neg (by omega)]; refine ⟨?_, rfl⟩; congr 1; omega), rfl, rfl⟩
                                    · exact absurd c_13 (by assumption)
                      · refine g_bipush dX7_set_90 rfl ?_
                        exact g_iret hRet dX7_set_92 rfl ⟨(-2), S, (by unfold sp_set; rw [if_neg (by omega), if_pos (by omega)]; exact ⟨rfl, rfl⟩), rfl, rfl⟩
                    · exact absurd c_10 (by assumption)
                  · refine g_iconst dX7_set_73 ?_
                    exact g_iret hRet dX7_set_74 rfl ⟨(-1), S, (by unfold sp_set; rw [if_pos (by omega)]; exact ⟨rfl, rfl⟩), rfl, rfl⟩
                · exact absurd c_8 (by assumption)
            · exact absurd c_5 (by assumption)
      · refine g_iload_n 3 dX7_set_32 rfl rfl ?_
        refine g_iload_n 2 dX7_set_33 rfl rfl ?_
        refine g_if_eq (tgt := 42) (by unfold R32; omega) dX7_set_34 rfl (fun c_26 => ?_) (fun c_26 => ?_)
        · refine g_iconst dX7_set_42 ?_
          refine g_goto (tgt := 47) dX7_set_43 rfl ?_
          refine g_iload_n 2 dX7_set_47 rfl rfl ?_
          refine g_if_ne (tgt := 55) (by unfold R32; omega) dX7_set_48 rfl (fun c_27 => ?_) (fun c_27 => ?_)
          · refine g_iconst dX7_set_51 ?_
            refine g_goto (tgt := 67) dX7_set_52 rfl ?_
            refine g_callS_i (n := 3) (As := [.int (iI v), .int (iI 1), .int (iI 5)]) (wr := [(m0, oo 7 (fMo ra mm nf ti so ta go sl lo cn lx ly pm pi)), (ra 1, aI E 6 (fun j => S j 0)), (ra 2, aI E 6 (fun j => S j 1)), (ra 3, aI E 6 (fun j => S j 2)), (ra 4, aI E 6 (fun j => S j 3)), (ra 5, aI E 6 (fun j => g j 0))]) [] (c_X7_in E v 1 5 (by omega) (by omega) (by omega)) [] [0, 1, 2, 3, 4, 5] gX7_set_X7_in rfl ⟨rfl, by decide +kernel⟩ ⟨by decide, by decide⟩ rfl rfl rfl rfl rfl (by decide) rfl (by decide) (by decide) (fun _ h => absurd h List.not_mem_nil) dX7_set_67 rfl (Nat.le_of_ble_eq_true rfl) ⟨by decide, by decide⟩ (fun r u p_28 => ?_)
            obtain ⟨rfl, rfl⟩ := p_28
            refine g_perm (ws1 := [(m0, oo 7 (fMo ra mm nf ti so ta go sl lo cn lx ly pm pi)), (ra 1, aI E 6 (fun j => S j 0)), (ra 2, aI E 6 (fun j => S j 1)), (ra 3, aI E 6 (fun j => S j 2)), (ra 4, aI E 6 (fun j => S j 3)), (ra 5, aI E 6 (fun j => g j 0))]) [0, 1, 2, 3, 4, 5] rfl (by decide) rfl ?_
            refine g_if_ne_b (tgt := 75) dX7_set_70 rfl (fun c_29 => ?_) (fun c_29 => ?_)
            · refine g_iload_n 2 dX7_set_75 rfl rfl ?_
              refine g_iconst dX7_set_76 ?_
              refine g_icmp_ne (tgt := 93) (by unfold R32; omega) (by unfold R32; omega) dX7_set_77 rfl (fun c_30 => ?_) (fun c_30 => ?_)
              · exact absurd (by assumption) c_5
              · refine g_iload_n 2 dX7_set_93 rfl rfl ?_
                refine g_if_ne (tgt := 106) (by unfold R32; omega) dX7_set_94 rfl (fun c_31 => ?_) (fun c_31 => ?_)
                · refine g_aload_n 0 dX7_set_97 rfl rfl ?_
                  refine g_get (C := RX7) (T := TX7) (N := 43) 0 1 (fun _ h => List.mem_cons_of_mem _ (List.mem_append_right _ h)) (List.mem_of_getElem? (i := 3) rfl) rfl rfl (by decide) rfl rfl dX7_set_98 ?_
                  refine g_iload_n 1 dX7_set_101 rfl rfl ?_
                  refine g_iald 1 dX7_set_102 rfl (by decide) (by omega) (by omega) ?_
                  refine g_top (y := iI (S i 0)) rfl ?_
                  refine g_goto (tgt := 140) dX7_set_103 rfl ?_
                  refine g_istore (lv1 := [(4, .int (iI (S i 0))), (0, .ref m0), (1, .int (iI i)), (2, .int (iI what)), (3, .int (iI v))]) dX7_set_140 (by decide) rfl ?_
                  refine g_aload_n 1 dX7_set_142 rfl rfl ?_
                  refine g_get (C := RX7) (T := TX7) (N := 43) 0 1 (fun _ h => List.mem_cons_of_mem _ (List.mem_append_right _ h)) (List.mem_of_getElem? (i := 3) rfl) rfl rfl (by decide) rfl rfl dX7_set_143 ?_
                  refine g_iload_n 2 dX7_set_146 rfl rfl ?_
                  refine g_iload_n 3 dX7_set_147 rfl rfl ?_
                  refine g_if_ne (tgt := 155) (by unfold R32; omega) dX7_set_148 rfl (fun c_32 => ?_) (fun c_32 => ?_)
                  · refine g_iload_n 4 dX7_set_151 rfl rfl ?_
                    refine g_goto (tgt := 161) dX7_set_152 rfl ?_
                    refine g_iast (ws1 := [(m0, oo 7 (fMo ra mm nf ti so ta go sl lo cn lx ly pm pi)), (ra 1, aI E 6 (up (fun j => S j 0) i v)), (ra 2, aI E 6 (fun j => S j 1)), (ra 3, aI E 6 (fun j => S j 2)), (ra 4, aI E 6 (fun j => S j 3)), (ra 5, aI E 6 (fun j => g j 0))]) 1 dX7_set_161 rfl rfl (by decide) (by omega) (by omega) ?_
                    refine g_aload_n 1 dX7_set_162 rfl rfl ?_
                    refine g_get (C := RX7) (T := TX7) (N := 43) 0 2 (fun _ h => List.mem_cons_of_mem _ (List.mem_append_right _ h)) (List.mem_of_getElem? (i := 4) rfl) rfl rfl (by decide) rfl rfl dX7_set_163 ?_
                    refine g_iload_n 2 dX7_set_166 rfl rfl ?_
                    refine g_iload_n 3 dX7_set_167 rfl rfl ?_
                    refine g_iconst dX7_set_168 ?_
                    refine g_icmp_ne (tgt := 176) (by unfold R32; omega) (by unfold R32; omega) dX7_set_169 rfl (fun c_33 => ?_) (fun c_33 => ?_)
                    · exact absurd (c_32.symm.trans (by assumption)) (by decide)
                    · refine g_aload_n 1 dX7_set_176 rfl rfl ?_
                      refine g_get (C := RX7) (T := TX7) (N := 43) 0 2 (fun _ h => List.mem_cons_of_mem _ (List.mem_append_right _ h)) (List.mem_of_getElem? (i := 4) rfl) rfl rfl (by decide) rfl rfl dX7_set_177 ?_
                      refine g_iload_n 2 dX7_set_180 rfl rfl ?_
                      refine g_iald 2 dX7_set_181 rfl (by decide) (by omega) (by omega) ?_
                      refine g_top (y := iI (S i 1)) rfl ?_
                      refine g_iast (ws1 := [(m0, oo 7 (fMo ra mm nf ti so ta go sl lo cn lx ly pm pi)), (ra 1, aI E 6 (up (fun j => S j 0) i v)), (ra 2, aI E 6 (up (fun j => S j 1) i (S i 1))), (ra 3, aI E 6 (fun j => S j 2)), (ra 4, aI E 6 (fun j => S j 3)), (ra 5, aI E 6 (fun j => g j 0))]) 2 dX7_set_182 rfl rfl (by decide) (by omega) (by omega) ?_
                      refine g_aload_n 1 dX7_set_183 rfl rfl ?_
                      refine g_get (C := RX7) (T := TX7) (N := 43) 0 3 (fun _ h => List.mem_cons_of_mem _ (List.mem_append_right _ h)) (List.mem_of_getElem? (i := 5) rfl) rfl rfl (by decide) rfl rfl dX7_set_184 ?_
                      refine g_iload_n 2 dX7_set_187 rfl rfl ?_
                      refine g_iload_n 3 dX7_set_188 rfl rfl ?_
                      refine g_iconst dX7_set_189 ?_
                      refine g_icmp_ne (tgt := 197) (by unfold R32; omega) (by unfold R32; omega) dX7_set_190 rfl (fun c_34 => ?_) (fun c_34 => ?_)
                      · exact absurd (c_32.symm.trans (by assumption)) (by decide)
                      · refine g_aload_n 1 dX7_set_197 rfl rfl ?_
                        refine g_get (C := RX7) (T := TX7) (N := 43) 0 3 (fun _ h => List.mem_cons_of_mem _ (List.mem_append_right _ h)) (List.mem_of_getElem? (i := 5) rfl) rfl rfl (by decide) rfl rfl dX7_set_198 ?_
                        refine g_iload_n 2 dX7_set_201 rfl rfl ?_
                        refine g_iald 3 dX7_set_202 rfl (by decide) (by omega) (by omega) ?_
                        refine g_top (y := iI (S i 2)) rfl ?_
                        refine g_iast (ws1 := [(m0, oo 7 (fMo ra mm nf ti so ta go sl lo cn lx ly pm pi)), (ra 1, aI E 6 (up (fun j => S j 0) i v)), (ra 2, aI E 6 (up (fun j => S j 1) i (S i 1))), (ra 3, aI E 6 (up (fun j => S j 2) i (S i 2))), (ra 4, aI E 6 (fun j => S j 3)), (ra 5, aI E 6 (fun j => g j 0))]) 3 dX7_set_203 rfl rfl (by decide) (by omega) (by omega) ?_
                        refine g_aload_n 1 dX7_set_204 rfl rfl ?_
                        refine g_get (C := RX7) (T := TX7) (N := 43) 0 4 (fun _ h => List.mem_cons_of_mem _ (List.mem_append_right _ h)) (List.mem_of_getElem? (i := 6) rfl) rfl rfl (by decide) rfl rfl dX7_set_205 ?_
                        refine g_iload_n 2 dX7_set_208 rfl rfl ?_
                        refine g_iload_n 3 dX7_set_209 rfl rfl ?_
                        refine g_iconst dX7_set_210 ?_
                        refine g_icmp_ne (tgt := 218) (by unfold R32; omega) (by unfold R32; omega) dX7_set_211 rfl (fun c_35 => ?_) (fun c_35 => ?_)
                        · exact absurd (by assumption) c_30
                        · refine g_aload_n 1 dX7_set_218 rfl rfl ?_
                          refine g_get (C := RX7) (T := TX7) (N := 43) 0 4 (fun _ h => List.mem_cons_of_mem _ (List.mem_append_right _ h)) (List.mem_of_getElem? (i := 6) rfl) rfl rfl (by decide) rfl rfl dX7_set_219 ?_
                          refine g_iload_n 2 dX7_set_222 rfl rfl ?_
                          refine g_iald 4 dX7_set_223 rfl (by decide) (by omega) (by omega) ?_
                          refine g_top (y := iI (S i 3)) rfl ?_
                          refine g_iast (ws1 := [(m0, oo 7 (fMo ra mm nf ti so ta go sl lo cn lx ly pm pi)), (ra 1, aI E 6 (up (fun j => S j 0) i v)), (ra 2, aI E 6 (up (fun j => S j 1) i (S i 1))), (ra 3, aI E 6 (up (fun j => S j 2) i (S i 2))), (ra 4, aI E 6 (up (fun j => S j 3) i (S i 3))), (ra 5, aI E 6 (fun j => g j 0))]) 4 dX7_set_224 rfl rfl (by decide) (by omega) (by omega) ?_
                          have hC_36 : (fun j => ug S i (up (S i) what v) j 0) = (up (fun j => S j 0) i v) := by first | (exfalso; omega) | (rw [colU]; congr 1; unfold up; first | rw [if_pos (by omega)] | rw [if_neg (by omega)])
                          have hC_37 : (fun j => ug S i (up (S i) what v) j 1) = (up (fun j => S j 1) i (S i 1)) := by first | (exfalso; omega) | (rw [colU]; congr 1; unfold up; first | rw [if_pos (by omega)] | rw [if_neg (by omega)])
                          have hC_38 : (fun j => ug S i (up (S i) what v) j 2) = (up (fun j => S j 2) i (S i 2)) := by first | (exfalso; omega) | (rw [colU]; congr 1; unfold up; first | rw [if_pos (by omega)] | rw [if_neg (by omega)])
                          have hC_39 : (fun j => ug S i (up (S i) what v) j 3) = (up (fun j => S j 3) i (S i 3)) := by first | (exfalso; omega) | (rw [colU]; congr 1; unfold up; first | rw [if_pos (by omega)] | rw [if_neg (by omega)])
                          refine g_as (ws1 := [(m0, oo 7 (fMo ra mm nf ti so ta go sl lo cn lx ly pm pi)), (ra 1, aI E 6 (fun j => ug S i (up (S i) what v) j 0)), (ra 2, aI E 6 (fun j => ug S i (up (S i) what v) j 1)), (ra 3, aI E 6 (fun j => ug S i (up (S i) what v) j 2)), (ra 4, aI E 6 (fun j => ug S i (up (S i) what v) j 3)), (ra 5, aI E 6 (fun j => g j 0))]) ?_ (by rw [hC_36, hC_37, hC_38, hC_39]) rfl rfl
                          refine g_iload 0 dX7_set_225 rfl ?_
                          exact g_iret hRet dX7_set_227 rfl ⟨(S i 0), (ug S i (up (S i) what v)), (by unfold sp_set; rw [if_neg (by omega), if_neg (by omega)]; refine ⟨?_, rfl⟩; congr 1; omega), rfl, rfl⟩
                  · exact absurd c_31 (by assumption)
                · exact absurd c_27 (by assumption)
            · refine g_iconst dX7_set_73 ?_
              exact g_iret hRet dX7_set_74 rfl ⟨(-1), S, (by unfold sp_set; rw [if_pos (by omega)]; exact ⟨rfl, rfl⟩), rfl, rfl⟩
          · exact absurd c_26 (by assumption)
        · refine g_iload_n 2 dX7_set_37 rfl rfl ?_
          refine g_iconst dX7_set_38 ?_
          refine g_icmp_ne (tgt := 46) (by unfold R32; omega) (by unfold R32; omega) dX7_set_39 rfl (fun c_40 => ?_) (fun c_40 => ?_)
          · exact absurd (by assumption) c_5
          · refine g_iconst dX7_set_46 ?_
            refine g_iload_n 2 dX7_set_47 rfl rfl ?_
            refine g_if_ne (tgt := 55) (by unfold R32; omega) dX7_set_48 rfl (fun c_41 => ?_) (fun c_41 => ?_)
            · exact absurd (by assumption) c_26
            · refine g_iload_n 2 dX7_set_55 rfl rfl ?_
              refine g_iconst dX7_set_56 ?_
              refine g_icmp_ne (tgt := 65) (by unfold R32; omega) (by unfold R32; omega) dX7_set_57 rfl (fun c_42 => ?_) (fun c_42 => ?_)
              · exact absurd (by assumption) c_40
              · refine g_bipush dX7_set_65 rfl ?_
                refine g_callS_i (n := 3) (As := [.int (iI v), .int (iI 0), .int (iI 99)]) (wr := [(m0, oo 7 (fMo ra mm nf ti so ta go sl lo cn lx ly pm pi)), (ra 1, aI E 6 (fun j => S j 0)), (ra 2, aI E 6 (fun j => S j 1)), (ra 3, aI E 6 (fun j => S j 2)), (ra 4, aI E 6 (fun j => S j 3)), (ra 5, aI E 6 (fun j => g j 0))]) [] (c_X7_in E v 0 99 (by omega) (by omega) (by omega)) [] [0, 1, 2, 3, 4, 5] gX7_set_X7_in rfl ⟨rfl, by decide +kernel⟩ ⟨by decide, by decide⟩ rfl rfl rfl rfl rfl (by decide) rfl (by decide) (by decide) (fun _ h => absurd h List.not_mem_nil) dX7_set_67 rfl (Nat.le_of_ble_eq_true rfl) ⟨by decide, by decide⟩ (fun r u p_43 => ?_)
                obtain ⟨rfl, rfl⟩ := p_43
                refine g_perm (ws1 := [(m0, oo 7 (fMo ra mm nf ti so ta go sl lo cn lx ly pm pi)), (ra 1, aI E 6 (fun j => S j 0)), (ra 2, aI E 6 (fun j => S j 1)), (ra 3, aI E 6 (fun j => S j 2)), (ra 4, aI E 6 (fun j => S j 3)), (ra 5, aI E 6 (fun j => g j 0))]) [0, 1, 2, 3, 4, 5] rfl (by decide) rfl ?_
                refine g_if_ne_b (tgt := 75) dX7_set_70 rfl (fun c_44 => ?_) (fun c_44 => ?_)
                · refine g_iload_n 2 dX7_set_75 rfl rfl ?_
                  refine g_iconst dX7_set_76 ?_
                  refine g_icmp_ne (tgt := 93) (by unfold R32; omega) (by unfold R32; omega) dX7_set_77 rfl (fun c_45 => ?_) (fun c_45 => ?_)
                  · exact absurd (by assumption) c_42
                  · refine g_iload_n 2 dX7_set_93 rfl rfl ?_
                    refine g_if_ne (tgt := 106) (by unfold R32; omega) dX7_set_94 rfl (fun c_46 => ?_) (fun c_46 => ?_)
                    · exact absurd (by assumption) c_41
                    · refine g_iload_n 2 dX7_set_106 rfl rfl ?_
                      refine g_iconst dX7_set_107 ?_
                      refine g_icmp_ne (tgt := 120) (by unfold R32; omega) (by unfold R32; omega) dX7_set_108 rfl (fun c_47 => ?_) (fun c_47 => ?_)
                      · refine g_aload_n 0 dX7_set_111 rfl rfl ?_
                        refine g_get (C := RX7) (T := TX7) (N := 43) 0 2 (fun _ h => List.mem_cons_of_mem _ (List.mem_append_right _ h)) (List.mem_of_getElem? (i := 4) rfl) rfl rfl (by decide) rfl rfl dX7_set_112 ?_
                        refine g_iload_n 1 dX7_set_115 rfl rfl ?_
                        refine g_iald 2 dX7_set_116 rfl (by decide) (by omega) (by omega) ?_
                        refine g_top (y := iI (S i 1)) rfl ?_
                        refine g_goto (tgt := 140) dX7_set_117 rfl ?_
                        refine g_istore (lv1 := [(4, .int (iI (S i 1))), (0, .ref m0), (1, .int (iI i)), (2, .int (iI what)), (3, .int (iI v))]) dX7_set_140 (by decide) rfl ?_
                        refine g_aload_n 1 dX7_set_142 rfl rfl ?_
                        refine g_get (C := RX7) (T := TX7) (N := 43) 0 1 (fun _ h => List.mem_cons_of_mem _ (List.mem_append_right _ h)) (List.mem_of_getElem? (i := 3) rfl) rfl rfl (by decide) rfl rfl dX7_set_143 ?_
                        refine g_iload_n 2 dX7_set_146 rfl rfl ?_
                        refine g_iload_n 3 dX7_set_147 rfl rfl ?_
                        refine g_if_ne (tgt := 155) (by unfold R32; omega) dX7_set_148 rfl (fun c_48 => ?_) (fun c_48 => ?_)
                        · exact absurd (by assumption) c_46
                        · refine g_aload_n 1 dX7_set_155 rfl rfl ?_
                          refine g_get (C := RX7) (T := TX7) (N := 43) 0 1 (fun _ h => List.mem_cons_of_mem _ (List.mem_append_right _ h)) (List.mem_of_getElem? (i := 3) rfl) rfl rfl (by decide) rfl rfl dX7_set_156 ?_
                          refine g_iload_n 2 dX7_set_159 rfl rfl ?_
                          refine g_iald 1 dX7_set_160 rfl (by decide) (by omega) (by omega) ?_
                          refine g_top (y := iI (S i 0)) rfl ?_
                          refine g_iast (ws1 := [(m0, oo 7 (fMo ra mm nf ti so ta go sl lo cn lx ly pm pi)), (ra 1, aI E 6 (up (fun j => S j 0) i (S i 0))), (ra 2, aI E 6 (fun j => S j 1)), (ra 3, aI E 6 (fun j => S j 2)), (ra 4, aI E 6 (fun j => S j 3)), (ra 5, aI E 6 (fun j => g j 0))]) 1 dX7_set_161 rfl rfl (by decide) (by omega) (by omega) ?_
                          refine g_aload_n 1 dX7_set_162 rfl rfl ?_
                          refine g_get (C := RX7) (T := TX7) (N := 43) 0 2 (fun _ h => List.mem_cons_of_mem _ (List.mem_append_right _ h)) (List.mem_of_getElem? (i := 4) rfl) rfl rfl (by decide) rfl rfl dX7_set_163 ?_
                          refine g_iload_n 2 dX7_set_166 rfl rfl ?_
                          refine g_iload_n 3 dX7_set_167 rfl rfl ?_
                          refine g_iconst dX7_set_168 ?_
                          refine g_icmp_ne (tgt := 176) (by unfold R32; omega) (by unfold R32; omega) dX7_set_169 rfl (fun c_49 => ?_) (fun c_49 => ?_)
                          · refine g_iload_n 4 dX7_set_172 rfl rfl ?_
                            refine g_goto (tgt := 182) dX7_set_173 rfl ?_
                            refine g_iast (ws1 := [(m0, oo 7 (fMo ra mm nf ti so ta go sl lo cn lx ly pm pi)), (ra 1, aI E 6 (up (fun j => S j 0) i (S i 0))), (ra 2, aI E 6 (up (fun j => S j 1) i v)), (ra 3, aI E 6 (fun j => S j 2)), (ra 4, aI E 6 (fun j => S j 3)), (ra 5, aI E 6 (fun j => g j 0))]) 2 dX7_set_182 rfl rfl (by decide) (by omega) (by omega) ?_
                            refine g_aload_n 1 dX7_set_183 rfl rfl ?_
                            refine g_get (C := RX7) (T := TX7) (N := 43) 0 3 (fun _ h => List.mem_cons_of_mem _ (List.mem_append_right _ h)) (List.mem_of_getElem? (i := 5) rfl) rfl rfl (by decide) rfl rfl dX7_set_184 ?_
                            refine g_iload_n 2 dX7_set_187 rfl rfl ?_
                            refine g_iload_n 3 dX7_set_188 rfl rfl ?_
                            refine g_iconst dX7_set_189 ?_
                            refine g_icmp_ne (tgt := 197) (by unfold R32; omega) (by unfold R32; omega) dX7_set_190 rfl (fun c_50 => ?_) (fun c_50 => ?_)
                            · exact absurd (c_49.symm.trans (by assumption)) (by decide)
                            · refine g_aload_n 1 dX7_set_197 rfl rfl ?_
                              refine g_get (C := RX7) (T := TX7) (N := 43) 0 3 (fun _ h => List.mem_cons_of_mem _ (List.mem_append_right _ h)) (List.mem_of_getElem? (i := 5) rfl) rfl rfl (by decide) rfl rfl dX7_set_198 ?_
                              refine g_iload_n 2 dX7_set_201 rfl rfl ?_
                              refine g_iald 3 dX7_set_202 rfl (by decide) (by omega) (by omega) ?_
                              refine g_top (y := iI (S i 2)) rfl ?_
                              refine g_iast (ws1 := [(m0, oo 7 (fMo ra mm nf ti so ta go sl lo cn lx ly pm pi)), (ra 1, aI E 6 (up (fun j => S j 0) i (S i 0))), (ra 2, aI E 6 (up (fun j => S j 1) i v)), (ra 3, aI E 6 (up (fun j => S j 2) i (S i 2))), (ra 4, aI E 6 (fun j => S j 3)), (ra 5, aI E 6 (fun j => g j 0))]) 3 dX7_set_203 rfl rfl (by decide) (by omega) (by omega) ?_
                              refine g_aload_n 1 dX7_set_204 rfl rfl ?_
                              refine g_get (C := RX7) (T := TX7) (N := 43) 0 4 (fun _ h => List.mem_cons_of_mem _ (List.mem_append_right _ h)) (List.mem_of_getElem? (i := 6) rfl) rfl rfl (by decide) rfl rfl dX7_set_205 ?_
                              refine g_iload_n 2 dX7_set_208 rfl rfl ?_
                              refine g_iload_n 3 dX7_set_209 rfl rfl ?_
                              refine g_iconst dX7_set_210 ?_
                              refine g_icmp_ne (tgt := 218) (by unfold R32; omega) (by unfold R32; omega) dX7_set_211 rfl (fun c_51 => ?_) (fun c_51 => ?_)
                              · exact absurd (by assumption) c_45
                              · refine g_aload_n 1 dX7_set_218 rfl rfl ?_
                                refine g_get (C := RX7) (T := TX7) (N := 43) 0 4 (fun _ h => List.mem_cons_of_mem _ (List.mem_append_right _ h)) (List.mem_of_getElem? (i := 6) rfl) rfl rfl (by decide) rfl rfl dX7_set_219 ?_
                                refine g_iload_n 2 dX7_set_222 rfl rfl ?_
                                refine g_iald 4 dX7_set_223 rfl (by decide) (by omega) (by omega) ?_
                                refine g_top (y := iI (S i 3)) rfl ?_
                                refine g_iast (ws1 := [(m0, oo 7 (fMo ra mm nf ti so ta go sl lo cn lx ly pm pi)), (ra 1, aI E 6 (up (fun j => S j 0) i (S i 0))), (ra 2, aI E 6 (up (fun j => S j 1) i v)), (ra 3, aI E 6 (up (fun j => S j 2) i (S i 2))), (ra 4, aI E 6 (up (fun j => S j 3) i (S i 3))), (ra 5, aI E 6 (fun j => g j 0))]) 4 dX7_set_224 rfl rfl (by decide) (by omega) (by omega) ?_
                                have hC_52 : (fun j => ug S i (up (S i) what v) j 0) = (up (fun j => S j 0) i (S i 0)) := by first | (exfalso; omega) | (rw [colU]; congr 1; unfold up; first | rw [if_pos (by omega)] | rw [if_neg (by omega)])
                                have hC_53 : (fun j => ug S i (up (S i) what v) j 1) = (up (fun j => S j 1) i v) := by first | (exfalso; omega) | (rw [colU]; congr 1; unfold up; first | rw [if_pos (by omega)] | rw [if_neg (by omega)])
                                have hC_54 : (fun j => ug S i (up (S i) what v) j 2) = (up (fun j => S j 2) i (S i 2)) := by first | (exfalso; omega) | (rw [colU]; congr 1; unfold up; first | rw [if_pos (by omega)] | rw [if_neg (by omega)])
                                have hC_55 : (fun j => ug S i (up (S i) what v) j 3) = (up (fun j => S j 3) i (S i 3)) := by first | (exfalso; omega) | (rw [colU]; congr 1; unfold up; first | rw [if_pos (by omega)] | rw [if_neg (by omega)])
                                refine g_as (ws1 := [(m0, oo 7 (fMo ra mm nf ti so ta go sl lo cn lx ly pm pi)), (ra 1, aI E 6 (fun j => ug S i (up (S i) what v) j 0)), (ra 2, aI E 6 (fun j => ug S i (up (S i) what v) j 1)), (ra 3, aI E 6 (fun j => ug S i (up (S i) what v) j 2)), (ra 4, aI E 6 (fun j => ug S i (up (S i) what v) j 3)), (ra 5, aI E 6 (fun j => g j 0))]) ?_ (by rw [hC_52, hC_53, hC_54, hC_55]) rfl rfl
                                refine g_iload 0 dX7_set_225 rfl ?_
                                exact g_iret hRet dX7_set_227 rfl ⟨(S i 1), (ug S i (up (S i) what v)), (by unfold sp_set; rw [if_neg (by omega), if_neg (by omega)]; refine ⟨?_, rfl⟩; congr 1; omega), rfl, rfl⟩
                          · exact absurd c_47 (by assumption)
                      · refine g_iload_n 2 dX7_set_120 rfl rfl ?_
                        refine g_iconst dX7_set_121 ?_
                        refine g_icmp_ne (tgt := 134) (by unfold R32; omega) (by unfold R32; omega) dX7_set_122 rfl (fun c_56 => ?_) (fun c_56 => ?_)
                        · refine g_aload_n 0 dX7_set_125 rfl rfl ?_
                          refine g_get (C := RX7) (T := TX7) (N := 43) 0 3 (fun _ h => List.mem_cons_of_mem _ (List.mem_append_right _ h)) (List.mem_of_getElem? (i := 5) rfl) rfl rfl (by decide) rfl rfl dX7_set_126 ?_
                          refine g_iload_n 1 dX7_set_129 rfl rfl ?_
                          refine g_iald 3 dX7_set_130 rfl (by decide) (by omega) (by omega) ?_
                          refine g_top (y := iI (S i 2)) rfl ?_
                          refine g_goto (tgt := 140) dX7_set_131 rfl ?_
                          refine g_istore (lv1 := [(4, .int (iI (S i 2))), (0, .ref m0), (1, .int (iI i)), (2, .int (iI what)), (3, .int (iI v))]) dX7_set_140 (by decide) rfl ?_
                          refine g_aload_n 1 dX7_set_142 rfl rfl ?_
                          refine g_get (C := RX7) (T := TX7) (N := 43) 0 1 (fun _ h => List.mem_cons_of_mem _ (List.mem_append_right _ h)) (List.mem_of_getElem? (i := 3) rfl) rfl rfl (by decide) rfl rfl dX7_set_143 ?_
                          refine g_iload_n 2 dX7_set_146 rfl rfl ?_
                          refine g_iload_n 3 dX7_set_147 rfl rfl ?_
                          refine g_if_ne (tgt := 155) (by unfold R32; omega) dX7_set_148 rfl (fun c_57 => ?_) (fun c_57 => ?_)
                          · exact absurd (by assumption) c_46
                          · refine g_aload_n 1 dX7_set_155 rfl rfl ?_
                            refine g_get (C := RX7) (T := TX7) (N := 43) 0 1 (fun _ h => List.mem_cons_of_mem _ (List.mem_append_right _ h)) (List.mem_of_getElem? (i := 3) rfl) rfl rfl (by decide) rfl rfl dX7_set_156 ?_
                            refine g_iload_n 2 dX7_set_159 rfl rfl ?_
                            refine g_iald 1 dX7_set_160 rfl (by decide) (by omega) (by omega) ?_
                            refine g_top (y := iI (S i 0)) rfl ?_
                            refine g_iast (ws1 := [(m0, oo 7 (fMo ra mm nf ti so ta go sl lo cn lx ly pm pi)), (ra 1, aI E 6 (up (fun j => S j 0) i (S i 0))), (ra 2, aI E 6 (fun j => S j 1)), (ra 3, aI E 6 (fun j => S j 2)), (ra 4, aI E 6 (fun j => S j 3)), (ra 5, aI E 6 (fun j => g j 0))]) 1 dX7_set_161 rfl rfl (by decide) (by omega) (by omega) ?_
                            refine g_aload_n 1 dX7_set_162 rfl rfl ?_
                            refine g_get (C := RX7) (T := TX7) (N := 43) 0 2 (fun _ h => List.mem_cons_of_mem _ (List.mem_append_right _ h)) (List.mem_of_getElem? (i := 4) rfl) rfl rfl (by decide) rfl rfl dX7_set_163 ?_
                            refine g_iload_n 2 dX7_set_166 rfl rfl ?_
                            refine g_iload_n 3 dX7_set_167 rfl rfl ?_
                            refine g_iconst dX7_set_168 ?_
                            refine g_icmp_ne (tgt := 176) (by unfold R32; omega) (by unfold R32; omega) dX7_set_169 rfl (fun c_58 => ?_) (fun c_58 => ?_)
                            · exact absurd (by assumption) c_47
                            · refine g_aload_n 1 dX7_set_176 rfl rfl ?_
                              refine g_get (C := RX7) (T := TX7) (N := 43) 0 2 (fun _ h => List.mem_cons_of_mem _ (List.mem_append_right _ h)) (List.mem_of_getElem? (i := 4) rfl) rfl rfl (by decide) rfl rfl dX7_set_177 ?_
                              refine g_iload_n 2 dX7_set_180 rfl rfl ?_
                              refine g_iald 2 dX7_set_181 rfl (by decide) (by omega) (by omega) ?_
                              refine g_top (y := iI (S i 1)) rfl ?_
                              refine g_iast (ws1 := [(m0, oo 7 (fMo ra mm nf ti so ta go sl lo cn lx ly pm pi)), (ra 1, aI E 6 (up (fun j => S j 0) i (S i 0))), (ra 2, aI E 6 (up (fun j => S j 1) i (S i 1))), (ra 3, aI E 6 (fun j => S j 2)), (ra 4, aI E 6 (fun j => S j 3)), (ra 5, aI E 6 (fun j => g j 0))]) 2 dX7_set_182 rfl rfl (by decide) (by omega) (by omega) ?_
                              refine g_aload_n 1 dX7_set_183 rfl rfl ?_
                              refine g_get (C := RX7) (T := TX7) (N := 43) 0 3 (fun _ h => List.mem_cons_of_mem _ (List.mem_append_right _ h)) (List.mem_of_getElem? (i := 5) rfl) rfl rfl (by decide) rfl rfl dX7_set_184 ?_
                              refine g_iload_n 2 dX7_set_187 rfl rfl ?_
                              refine g_iload_n 3 dX7_set_188 rfl rfl ?_
                              refine g_iconst dX7_set_189 ?_
                              refine g_icmp_ne (tgt := 197) (by unfold R32; omega) (by unfold R32; omega) dX7_set_190 rfl (fun c_59 => ?_) (fun c_59 => ?_)
                              · refine g_iload_n 4 dX7_set_193 rfl rfl ?_
                                refine g_goto (tgt := 203) dX7_set_194 rfl ?_
                                refine g_iast (ws1 := [(m0, oo 7 (fMo ra mm nf ti so ta go sl lo cn lx ly pm pi)), (ra 1, aI E 6 (up (fun j => S j 0) i (S i 0))), (ra 2, aI E 6 (up (fun j => S j 1) i (S i 1))), (ra 3, aI E 6 (up (fun j => S j 2) i v)), (ra 4, aI E 6 (fun j => S j 3)), (ra 5, aI E 6 (fun j => g j 0))]) 3 dX7_set_203 rfl rfl (by decide) (by omega) (by omega) ?_
                                refine g_aload_n 1 dX7_set_204 rfl rfl ?_
                                refine g_get (C := RX7) (T := TX7) (N := 43) 0 4 (fun _ h => List.mem_cons_of_mem _ (List.mem_append_right _ h)) (List.mem_of_getElem? (i := 6) rfl) rfl rfl (by decide) rfl rfl dX7_set_205 ?_
                                refine g_iload_n 2 dX7_set_208 rfl rfl ?_
                                refine g_iload_n 3 dX7_set_209 rfl rfl ?_
                                refine g_iconst dX7_set_210 ?_
                                refine g_icmp_ne (tgt := 218) (by unfold R32; omega) (by unfold R32; omega) dX7_set_211 rfl (fun c_60 => ?_) (fun c_60 => ?_)
                                · exact absurd (by assumption) c_45
                                · refine g_aload_n 1 dX7_set_218 rfl rfl ?_
                                  refine g_get (C := RX7) (T := TX7) (N := 43) 0 4 (fun _ h => List.mem_cons_of_mem _ (List.mem_append_right _ h)) (List.mem_of_getElem? (i := 6) rfl) rfl rfl (by decide) rfl rfl dX7_set_219 ?_
                                  refine g_iload_n 2 dX7_set_222 rfl rfl ?_
                                  refine g_iald 4 dX7_set_223 rfl (by decide) (by omega) (by omega) ?_
                                  refine g_top (y := iI (S i 3)) rfl ?_
                                  refine g_iast (ws1 := [(m0, oo 7 (fMo ra mm nf ti so ta go sl lo cn lx ly pm pi)), (ra 1, aI E 6 (up (fun j => S j 0) i (S i 0))), (ra 2, aI E 6 (up (fun j => S j 1) i (S i 1))), (ra 3, aI E 6 (up (fun j => S j 2) i v)), (ra 4, aI E 6 (up (fun j => S j 3) i (S i 3))), (ra 5, aI E 6 (fun j => g j 0))]) 4 dX7_set_224 rfl rfl (by decide) (by omega) (by omega) ?_
                                  have hC_61 : (fun j => ug S i (up (S i) what v) j 0) = (up (fun j => S j 0) i (S i 0)) := by first | (exfalso; omega) | (rw [colU]; congr 1; unfold up; first | rw [if_pos (by omega)] | rw [if_neg (by omega)])
                                  have hC_62 : (fun j => ug S i (up (S i) what v) j 1) = (up (fun j => S j 1) i (S i 1)) := by first | (exfalso; omega) | (rw [colU]; congr 1; unfold up; first | rw [if_pos (by omega)] | rw [if_neg (by omega)])
                                  have hC_63 : (fun j => ug S i (up (S i) what v) j 2) = (up (fun j => S j 2) i v) := by first | (exfalso; omega) | (rw [colU]; congr 1; unfold up; first | rw [if_pos (by omega)] | rw [if_neg (by omega)])
                                  have hC_64 : (fun j => ug S i (up (S i) what v) j 3) = (up (fun j => S j 3) i (S i 3)) := by first | (exfalso; omega) | (rw [colU]; congr 1; unfold up; first | rw [if_pos (by omega)] | rw [if_neg (by omega)])
                                  refine g_as (ws1 := [(m0, oo 7 (fMo ra mm nf ti so ta go sl lo cn lx ly pm pi)), (ra 1, aI E 6 (fun j => ug S i (up (S i) what v) j 0)), (ra 2, aI E 6 (fun j => ug S i (up (S i) what v) j 1)), (ra 3, aI E 6 (fun j => ug S i (up (S i) what v) j 2)), (ra 4, aI E 6 (fun j => ug S i (up (S i) what v) j 3)), (ra 5, aI E 6 (fun j => g j 0))]) ?_ (by rw [hC_61, hC_62, hC_63, hC_64]) rfl rfl
                                  refine g_iload 0 dX7_set_225 rfl ?_
                                  exact g_iret hRet dX7_set_227 rfl ⟨(S i 2), (ug S i (up (S i) what v)), (by unfold sp_set; rw [if_neg (by omega), if_neg (by omega)]; refine ⟨?_, rfl⟩; congr 1; omega), rfl, rfl⟩
                              · exact absurd c_56 (by assumption)
                        · refine g_aload_n 0 dX7_set_134 rfl rfl ?_
                          refine g_get (C := RX7) (T := TX7) (N := 43) 0 4 (fun _ h => List.mem_cons_of_mem _ (List.mem_append_right _ h)) (List.mem_of_getElem? (i := 6) rfl) rfl rfl (by decide) rfl rfl dX7_set_135 ?_
                          refine g_iload_n 1 dX7_set_138 rfl rfl ?_
                          refine g_iald 4 dX7_set_139 rfl (by decide) (by omega) (by omega) ?_
                          refine g_top (y := iI (S i 3)) rfl ?_
                          refine g_istore (lv1 := [(4, .int (iI (S i 3))), (0, .ref m0), (1, .int (iI i)), (2, .int (iI what)), (3, .int (iI v))]) dX7_set_140 (by decide) rfl ?_
                          refine g_aload_n 1 dX7_set_142 rfl rfl ?_
                          refine g_get (C := RX7) (T := TX7) (N := 43) 0 1 (fun _ h => List.mem_cons_of_mem _ (List.mem_append_right _ h)) (List.mem_of_getElem? (i := 3) rfl) rfl rfl (by decide) rfl rfl dX7_set_143 ?_
                          refine g_iload_n 2 dX7_set_146 rfl rfl ?_
                          refine g_iload_n 3 dX7_set_147 rfl rfl ?_
                          refine g_if_ne (tgt := 155) (by unfold R32; omega) dX7_set_148 rfl (fun c_65 => ?_) (fun c_65 => ?_)
                          · exact absurd (by assumption) c_46
                          · refine g_aload_n 1 dX7_set_155 rfl rfl ?_
                            refine g_get (C := RX7) (T := TX7) (N := 43) 0 1 (fun _ h => List.mem_cons_of_mem _ (List.mem_append_right _ h)) (List.mem_of_getElem? (i := 3) rfl) rfl rfl (by decide) rfl rfl dX7_set_156 ?_
                            refine g_iload_n 2 dX7_set_159 rfl rfl ?_
                            refine g_iald 1 dX7_set_160 rfl (by decide) (by omega) (by omega) ?_
                            refine g_top (y := iI (S i 0)) rfl ?_
                            refine g_iast (ws1 := [(m0, oo 7 (fMo ra mm nf ti so ta go sl lo cn lx ly pm pi)), (ra 1, aI E 6 (up (fun j => S j 0) i (S i 0))), (ra 2, aI E 6 (fun j => S j 1)), (ra 3, aI E 6 (fun j => S j 2)), (ra 4, aI E 6 (fun j => S j 3)), (ra 5, aI E 6 (fun j => g j 0))]) 1 dX7_set_161 rfl rfl (by decide) (by omega) (by omega) ?_
                            refine g_aload_n 1 dX7_set_162 rfl rfl ?_
                            refine g_get (C := RX7) (T := TX7) (N := 43) 0 2 (fun _ h => List.mem_cons_of_mem _ (List.mem_append_right _ h)) (List.mem_of_getElem? (i := 4) rfl) rfl rfl (by decide) rfl rfl dX7_set_163 ?_
                            refine g_iload_n 2 dX7_set_166 rfl rfl ?_
                            refine g_iload_n 3 dX7_set_167 rfl rfl ?_
                            refine g_iconst dX7_set_168 ?_
                            refine g_icmp_ne (tgt := 176) (by unfold R32; omega) (by unfold R32; omega) dX7_set_169 rfl (fun c_66 => ?_) (fun c_66 => ?_)
                            · exact absurd (by assumption) c_47
                            · refine g_aload_n 1 dX7_set_176 rfl rfl ?_
                              refine g_get (C := RX7) (T := TX7) (N := 43) 0 2 (fun _ h => List.mem_cons_of_mem _ (List.mem_append_right _ h)) (List.mem_of_getElem? (i := 4) rfl) rfl rfl (by decide) rfl rfl dX7_set_177 ?_
                              refine g_iload_n 2 dX7_set_180 rfl rfl ?_
                              refine g_iald 2 dX7_set_181 rfl (by decide) (by omega) (by omega) ?_
                              refine g_top (y := iI (S i 1)) rfl ?_
                              refine g_iast (ws1 := [(m0, oo 7 (fMo ra mm nf ti so ta go sl lo cn lx ly pm pi)), (ra 1, aI E 6 (up (fun j => S j 0) i (S i 0))), (ra 2, aI E 6 (up (fun j => S j 1) i (S i 1))), (ra 3, aI E 6 (fun j => S j 2)), (ra 4, aI E 6 (fun j => S j 3)), (ra 5, aI E 6 (fun j => g j 0))]) 2 dX7_set_182 rfl rfl (by decide) (by omega) (by omega) ?_
                              refine g_aload_n 1 dX7_set_183 rfl rfl ?_
                              refine g_get (C := RX7) (T := TX7) (N := 43) 0 3 (fun _ h => List.mem_cons_of_mem _ (List.mem_append_right _ h)) (List.mem_of_getElem? (i := 5) rfl) rfl rfl (by decide) rfl rfl dX7_set_184 ?_
                              refine g_iload_n 2 dX7_set_187 rfl rfl ?_
                              refine g_iload_n 3 dX7_set_188 rfl rfl ?_
                              refine g_iconst dX7_set_189 ?_
                              refine g_icmp_ne (tgt := 197) (by unfold R32; omega) (by unfold R32; omega) dX7_set_190 rfl (fun c_67 => ?_) (fun c_67 => ?_)
                              · exact absurd (by assumption) c_56
                              · refine g_aload_n 1 dX7_set_197 rfl rfl ?_
                                refine g_get (C := RX7) (T := TX7) (N := 43) 0 3 (fun _ h => List.mem_cons_of_mem _ (List.mem_append_right _ h)) (List.mem_of_getElem? (i := 5) rfl) rfl rfl (by decide) rfl rfl dX7_set_198 ?_
                                refine g_iload_n 2 dX7_set_201 rfl rfl ?_
                                refine g_iald 3 dX7_set_202 rfl (by decide) (by omega) (by omega) ?_
                                refine g_top (y := iI (S i 2)) rfl ?_
                                refine g_iast (ws1 := [(m0, oo 7 (fMo ra mm nf ti so ta go sl lo cn lx ly pm pi)), (ra 1, aI E 6 (up (fun j => S j 0) i (S i 0))), (ra 2, aI E 6 (up (fun j => S j 1) i (S i 1))), (ra 3, aI E 6 (up (fun j => S j 2) i (S i 2))), (ra 4, aI E 6 (fun j => S j 3)), (ra 5, aI E 6 (fun j => g j 0))]) 3 dX7_set_203 rfl rfl (by decide) (by omega) (by omega) ?_
                                refine g_aload_n 1 dX7_set_204 rfl rfl ?_
                                refine g_get (C := RX7) (T := TX7) (N := 43) 0 4 (fun _ h => List.mem_cons_of_mem _ (List.mem_append_right _ h)) (List.mem_of_getElem? (i := 6) rfl) rfl rfl (by decide) rfl rfl dX7_set_205 ?_
                                refine g_iload_n 2 dX7_set_208 rfl rfl ?_
                                refine g_iload_n 3 dX7_set_209 rfl rfl ?_
                                refine g_iconst dX7_set_210 ?_
                                refine g_icmp_ne (tgt := 218) (by unfold R32; omega) (by unfold R32; omega) dX7_set_211 rfl (fun c_68 => ?_) (fun c_68 => ?_)
                                · exact absurd (by assumption) c_45
                                · refine g_aload_n 1 dX7_set_218 rfl rfl ?_
                                  refine g_get (C := RX7) (T := TX7) (N := 43) 0 4 (fun _ h => List.mem_cons_of_mem _ (List.mem_append_right _ h)) (List.mem_of_getElem? (i := 6) rfl) rfl rfl (by decide) rfl rfl dX7_set_219 ?_
                                  refine g_iload_n 2 dX7_set_222 rfl rfl ?_
                                  refine g_iald 4 dX7_set_223 rfl (by decide) (by omega) (by omega) ?_
                                  refine g_top (y := iI (S i 3)) rfl ?_
                                  refine g_iast (ws1 := [(m0, oo 7 (fMo ra mm nf ti so ta go sl lo cn lx ly pm pi)), (ra 1, aI E 6 (up (fun j => S j 0) i (S i 0))), (ra 2, aI E 6 (up (fun j => S j 1) i (S i 1))), (ra 3, aI E 6 (up (fun j => S j 2) i (S i 2))), (ra 4, aI E 6 (up (fun j => S j 3) i (S i 3))), (ra 5, aI E 6 (fun j => g j 0))]) 4 dX7_set_224 rfl rfl (by decide) (by omega) (by omega) ?_
                                  have hC_69 : (fun j => ug S i (up (S i) what v) j 0) = (up (fun j => S j 0) i (S i 0)) := by first | (exfalso; omega) | (rw [colU]; congr 1; unfold up; first | rw [if_pos (by omega)] | rw [if_neg (by omega)])
                                  have hC_70 : (fun j => ug S i (up (S i) what v) j 1) = (up (fun j => S j 1) i (S i 1)) := by first | (exfalso; omega) | (rw [colU]; congr 1; unfold up; first | rw [if_pos (by omega)] | rw [if_neg (by omega)])
                                  have hC_71 : (fun j => ug S i (up (S i) what v) j 2) = (up (fun j => S j 2) i (S i 2)) := by first | (exfalso; omega) | (rw [colU]; congr 1; unfold up; first | rw [if_pos (by omega)] | rw [if_neg (by omega)])
                                  have hC_72 : (fun j => ug S i (up (S i) what v) j 3) = (up (fun j => S j 3) i (S i 3)) := by first | (exfalso; omega) | (rw [colU]; congr 1; unfold up; first | rw [if_pos (by omega)] | rw [if_neg (by omega)])
                                  refine g_as (ws1 := [(m0, oo 7 (fMo ra mm nf ti so ta go sl lo cn lx ly pm pi)), (ra 1, aI E 6 (fun j => ug S i (up (S i) what v) j 0)), (ra 2, aI E 6 (fun j => ug S i (up (S i) what v) j 1)), (ra 3, aI E 6 (fun j => ug S i (up (S i) what v) j 2)), (ra 4, aI E 6 (fun j => ug S i (up (S i) what v) j 3)), (ra 5, aI E 6 (fun j => g j 0))]) ?_ (by rw [hC_69, hC_70, hC_71, hC_72]) rfl rfl
                                  refine g_iload 0 dX7_set_225 rfl ?_
                                  exact g_iret hRet dX7_set_227 rfl ⟨(S i 3), (ug S i (up (S i) what v)), (by unfold sp_set; rw [if_neg (by omega), if_neg (by omega)]; refine ⟨?_, rfl⟩; congr 1; omega), rfl, rfl⟩
                · refine g_iconst dX7_set_73 ?_
                  exact g_iret hRet dX7_set_74 rfl ⟨(-1), S, (by unfold sp_set; rw [if_pos (by omega)]; exact ⟨rfl, rfl⟩), rfl, rfl⟩
    · refine g_iconst dX7_set_73 ?_
      exact g_iret hRet dX7_set_74 rfl ⟨(-1), S, (by unfold sp_set; rw [if_pos (by omega)]; exact ⟨rfl, rfl⟩), rfl, rfl⟩
  · refine g_iconst dX7_set_73 ?_
    exact g_iret hRet dX7_set_74 rfl ⟨(-1), S, (by unfold sp_set; rw [if_pos (by omega)]; exact ⟨rfl, rfl⟩), rfl, rfl⟩

set_option maxHeartbeats 4000000 in
set_option maxRecDepth 100000 in
theorem c_X7_fault (E : Ev) (m0 : Nat) (ra : Nat → Nat) (mm : Int) (nf : Int) (ti : Int) (so : Int) (ta : Int) (go : Int) (sl : Int) (lo : Int) (cn : Int) (lx : Int) (ly : Int) (pm : Int) (pi : Int) (fm : Int → Int) (fa : Int → Int) (fb : Int → Int) (i : Int) (a : Int) (b : Int) (hM : 2 ≤ mm ∧ mm ≤ 6) (hti : 0 ≤ ti ∧ ti ≤ 10000) (hso : 0 ≤ so ∧ so ≤ 100000) (hgo : 0 ≤ go ∧ go ≤ 20000) (hcn : 0 ≤ cn ∧ cn ≤ 200) (hlo : 0 ≤ lo ∧ lo ≤ 15) (hnf : 0 ≤ nf ∧ nf ≤ 8) (hfm : ∀ k, 0 ≤ fm k ∧ fm k ≤ 5) (hfa : ∀ k, 0 ≤ fa k ∧ fa k ≤ 9999) (hfb : ∀ k, 0 ≤ fb k ∧ fb k ≤ 9999) (h_i : -2147483648 ≤ i ∧ i ≤ 2147483647) (h_a : -2147483648 ≤ a ∧ a ≤ 2147483647) (h_b : -2147483648 ≤ b ∧ b ≤ 2147483647) : MI yX7_fault wsX7_fault ({ frames := 2, cells := 0, slots := 0, locals := 43 } : Room) E [] 0 0 [.ref m0, .int (iI i), .int (iI a), .int (iI b)] [(m0, oo 7 (fMo ra mm nf ti so ta go sl lo cn lx ly pm pi)), (ra 15, aI E 8 fm), (ra 16, aI E 8 fa), (ra 17, aI E 8 fb)] (fun r u => ∃ (x : Int), ∃ (nf' : Int), ∃ (fm' : Int → Int), ∃ (fa' : Int → Int), ∃ (fb' : Int → Int), sp_fault mm ti nf fm fa fb i a b x nf' fm' fa' fb' ∧ r = iI x ∧ u = [(m0, oo 7 (fMo ra mm nf' ti so ta go sl lo cn lx ly pm pi)), (ra 15, aI E 8 fm'), (ra 16, aI E 8 fa'), (ra 17, aI E 8 fb')]) := by
  refine MI.of (cc := cX7_fault) (maxL := 4) (own := RX7) (by decide) rfl rfl rfl (Nat.le_of_ble_eq_true rfl) [(0, .ref m0), (1, .int (iI i)), (2, .int (iI a)), (3, .int (iI b))] rfl ?_
  intro X hin2 hRet
  refine g_aload_n 0 dX7_fault_0 rfl rfl ?_
  refine g_iload_n 1 dX7_fault_1 rfl rfl ?_
  refine g_callV_i (n := 1) (As := [.int (iI i)]) (wr := [(ra 15, aI E 8 fm), (ra 16, aI E 8 fa), (ra 17, aI E 8 fb)]) (C := RX7) [] (c_X7_isMachine E m0 ra mm nf ti so ta go sl lo cn lx ly pm pi i (by omega) (by omega) (by omega) (by omega) (by omega) (by omega) (by omega)) [0] [1, 2, 3] 0 rfl rfl gX7_fault_X7_isMachine rfl ⟨rfl, by decide +kernel⟩ ⟨by decide, by decide⟩ rfl rfl rfl rfl rfl (by decide) rfl (by decide) (by decide) (fun _ h => absurd h List.not_mem_nil) dX7_fault_2 rfl (Nat.le_of_ble_eq_true rfl) ⟨by decide, by decide⟩ (fun r u p_1 => ?_)
  obtain ⟨rfl, rfl⟩ := p_1
  refine g_perm (ws1 := [(m0, oo 7 (fMo ra mm nf ti so ta go sl lo cn lx ly pm pi)), (ra 15, aI E 8 fm), (ra 16, aI E 8 fa), (ra 17, aI E 8 fb)]) [3, 0, 1, 2] rfl (by decide) rfl ?_
  refine g_if_eq_b (tgt := 30) dX7_fault_5 rfl (fun c_2 => ?_) (fun c_2 => ?_)
  · refine g_iload_n 2 dX7_fault_8 rfl rfl ?_
    refine g_iconst dX7_fault_9 ?_
    refine g_sipush dX7_fault_10 rfl ?_
    refine g_callS_i (n := 3) (As := [.int (iI a), .int (iI 0), .int (iI 9999)]) (wr := [(m0, oo 7 (fMo ra mm nf ti so ta go sl lo cn lx ly pm pi)), (ra 15, aI E 8 fm), (ra 16, aI E 8 fa), (ra 17, aI E 8 fb)]) [] (c_X7_in E a 0 9999 (by omega) (by omega) (by omega)) [] [0, 1, 2, 3] gX7_fault_X7_in rfl ⟨rfl, by decide +kernel⟩ ⟨by decide, by decide⟩ rfl rfl rfl rfl rfl (by decide) rfl (by decide) (by decide) (fun _ h => absurd h List.not_mem_nil) dX7_fault_13 rfl (Nat.le_of_ble_eq_true rfl) ⟨by decide, by decide⟩ (fun r u p_3 => ?_)
    obtain ⟨rfl, rfl⟩ := p_3
    refine g_perm (ws1 := [(m0, oo 7 (fMo ra mm nf ti so ta go sl lo cn lx ly pm pi)), (ra 15, aI E 8 fm), (ra 16, aI E 8 fa), (ra 17, aI E 8 fb)]) [0, 1, 2, 3] rfl (by decide) rfl ?_
    refine g_if_eq_b (tgt := 30) dX7_fault_16 rfl (fun c_4 => ?_) (fun c_4 => ?_)
    · refine g_iload_n 3 dX7_fault_19 rfl rfl ?_
      refine g_iload_n 2 dX7_fault_20 rfl rfl ?_
      refine g_sipush dX7_fault_21 rfl ?_
      refine g_callS_i (n := 3) (As := [.int (iI b), .int (iI a), .int (iI 9999)]) (wr := [(m0, oo 7 (fMo ra mm nf ti so ta go sl lo cn lx ly pm pi)), (ra 15, aI E 8 fm), (ra 16, aI E 8 fa), (ra 17, aI E 8 fb)]) [] (c_X7_in E b a 9999 (by omega) (by omega) (by omega)) [] [0, 1, 2, 3] gX7_fault_X7_in rfl ⟨rfl, by decide +kernel⟩ ⟨by decide, by decide⟩ rfl rfl rfl rfl rfl (by decide) rfl (by decide) (by decide) (fun _ h => absurd h List.not_mem_nil) dX7_fault_24 rfl (Nat.le_of_ble_eq_true rfl) ⟨by decide, by decide⟩ (fun r u p_5 => ?_)
      obtain ⟨rfl, rfl⟩ := p_5
      refine g_perm (ws1 := [(m0, oo 7 (fMo ra mm nf ti so ta go sl lo cn lx ly pm pi)), (ra 15, aI E 8 fm), (ra 16, aI E 8 fa), (ra 17, aI E 8 fb)]) [0, 1, 2, 3] rfl (by decide) rfl ?_
      refine g_if_ne_b (tgt := 32) dX7_fault_27 rfl (fun c_6 => ?_) (fun c_6 => ?_)
      · refine g_iload_n 2 dX7_fault_32 rfl rfl ?_
        refine g_aload_n 0 dX7_fault_33 rfl rfl ?_
        refine g_get (C := RX7) (T := TX7) (N := 43) 0 18 (fun _ h => List.mem_cons_of_mem _ (List.mem_append_right _ h)) (List.mem_of_getElem? (i := 1) rfl) rfl rfl (by decide) rfl rfl dX7_fault_34 ?_
        refine g_icmp_ge (tgt := 43) (by unfold R32; omega) (by unfold R32; omega) dX7_fault_37 rfl (fun c_7 => ?_) (fun c_7 => ?_)
        · refine g_aload_n 0 dX7_fault_43 rfl rfl ?_
          refine g_get (C := RX7) (T := TX7) (N := 43) 0 14 (fun _ h => List.mem_cons_of_mem _ (List.mem_append_right _ h)) (List.mem_of_getElem? (i := 2) rfl) rfl rfl (by decide) rfl rfl dX7_fault_44 ?_
          refine g_bipush dX7_fault_47 rfl ?_
          refine g_icmp_ne (tgt := 55) (by unfold R32; omega) (by unfold R32; omega) dX7_fault_49 rfl (fun c_8 => ?_) (fun c_8 => ?_)
          · refine g_bipush dX7_fault_52 rfl ?_
            exact g_iret hRet dX7_fault_54 rfl ⟨(-3), nf, fm, fa, fb, (by unfold sp_fault sFault; rw [if_neg (by omega), if_neg (by omega), if_pos (by omega)]; exact ⟨rfl, rfl, rfl, rfl, rfl⟩), rfl, rfl⟩
          · refine g_aload_n 0 dX7_fault_55 rfl rfl ?_
            refine g_get (C := RX7) (T := TX7) (N := 43) 0 15 (fun _ h => List.mem_cons_of_mem _ (List.mem_append_right _ h)) (List.mem_of_getElem? (i := 3) rfl) rfl rfl (by decide) rfl rfl dX7_fault_56 ?_
            refine g_aload_n 0 dX7_fault_59 rfl rfl ?_
            refine g_get (C := RX7) (T := TX7) (N := 43) 0 14 (fun _ h => List.mem_cons_of_mem _ (List.mem_append_right _ h)) (List.mem_of_getElem? (i := 2) rfl) rfl rfl (by decide) rfl rfl dX7_fault_60 ?_
            refine g_iload_n 1 dX7_fault_63 rfl rfl ?_
            refine g_iast (ws1 := [(m0, oo 7 (fMo ra mm nf ti so ta go sl lo cn lx ly pm pi)), (ra 15, aI E 8 (up fm nf i)), (ra 16, aI E 8 fa), (ra 17, aI E 8 fb)]) 1 dX7_fault_64 rfl rfl (by decide) (by omega) (by omega) ?_
            refine g_aload_n 0 dX7_fault_65 rfl rfl ?_
            refine g_get (C := RX7) (T := TX7) (N := 43) 0 16 (fun _ h => List.mem_cons_of_mem _ (List.mem_append_right _ h)) (List.mem_of_getElem? (i := 4) rfl) rfl rfl (by decide) rfl rfl dX7_fault_66 ?_
            refine g_aload_n 0 dX7_fault_69 rfl rfl ?_
            refine g_get (C := RX7) (T := TX7) (N := 43) 0 14 (fun _ h => List.mem_cons_of_mem _ (List.mem_append_right _ h)) (List.mem_of_getElem? (i := 2) rfl) rfl rfl (by decide) rfl rfl dX7_fault_70 ?_
            refine g_iload_n 2 dX7_fault_73 rfl rfl ?_
            refine g_iast (ws1 := [(m0, oo 7 (fMo ra mm nf ti so ta go sl lo cn lx ly pm pi)), (ra 15, aI E 8 (up fm nf i)), (ra 16, aI E 8 (up fa nf a)), (ra 17, aI E 8 fb)]) 2 dX7_fault_74 rfl rfl (by decide) (by omega) (by omega) ?_
            refine g_aload_n 0 dX7_fault_75 rfl rfl ?_
            refine g_get (C := RX7) (T := TX7) (N := 43) 0 17 (fun _ h => List.mem_cons_of_mem _ (List.mem_append_right _ h)) (List.mem_of_getElem? (i := 5) rfl) rfl rfl (by decide) rfl rfl dX7_fault_76 ?_
            refine g_aload_n 0 dX7_fault_79 rfl rfl ?_
            refine g_get (C := RX7) (T := TX7) (N := 43) 0 14 (fun _ h => List.mem_cons_of_mem _ (List.mem_append_right _ h)) (List.mem_of_getElem? (i := 2) rfl) rfl rfl (by decide) rfl rfl dX7_fault_80 ?_
            refine g_iload_n 3 dX7_fault_83 rfl rfl ?_
            refine g_iast (ws1 := [(m0, oo 7 (fMo ra mm nf ti so ta go sl lo cn lx ly pm pi)), (ra 15, aI E 8 (up fm nf i)), (ra 16, aI E 8 (up fa nf a)), (ra 17, aI E 8 (up fb nf b))]) 3 dX7_fault_84 rfl rfl (by decide) (by omega) (by omega) ?_
            refine g_aload_n 0 dX7_fault_85 rfl rfl ?_
            refine g_dup dX7_fault_86 rfl ?_
            refine g_get (C := RX7) (T := TX7) (N := 43) 0 14 (fun _ h => List.mem_cons_of_mem _ (List.mem_append_right _ h)) (List.mem_of_getElem? (i := 2) rfl) rfl rfl (by decide) rfl rfl dX7_fault_87 ?_
            refine g_iconst dX7_fault_90 ?_
            refine g_iadd dX7_fault_91 ?_
            refine g_put (C := RX7) (T := TX7) (N := 43) (ws1 := [(m0, oo 7 (fMo ra mm (nf + 1) ti so ta go sl lo cn lx ly pm pi)), (ra 15, aI E 8 (up fm nf i)), (ra 16, aI E 8 (up fa nf a)), (ra 17, aI E 8 (up fb nf b))]) 0 14 (fun _ h => List.mem_cons_of_mem _ (List.mem_append_right _ h)) tyX7 tyX7_ok nmX7 (List.mem_of_getElem? (i := 2) rfl) rfl rfl (by decide) rfl (tyX7_ok 14 (by decide)) rfl rfl (by first | decide | exact Nat.le_of_ble_eq_true rfl) dX7_fault_92 rfl rfl ?_
            refine g_aload_n 0 dX7_fault_95 rfl rfl ?_
            refine g_get (C := RX7) (T := TX7) (N := 43) 0 14 (fun _ h => List.mem_cons_of_mem _ (List.mem_append_right _ h)) (List.mem_of_getElem? (i := 2) rfl) rfl rfl (by decide) rfl rfl dX7_fault_96 ?_
            exact g_iret hRet dX7_fault_99 rfl ⟨(nf + 1), (nf + 1), (up fm nf i), (up fa nf a), (up fb nf b), (by unfold sp_fault sFault; rw [if_neg (by omega), if_neg (by omega), if_neg (by omega)]; exact ⟨rfl, rfl, rfl, rfl, rfl⟩), rfl, rfl⟩
        · refine g_bipush dX7_fault_40 rfl ?_
          exact g_iret hRet dX7_fault_42 rfl ⟨(-2), nf, fm, fa, fb, (by unfold sp_fault; rw [if_neg (by omega), if_pos (by omega)]; exact ⟨rfl, rfl, rfl, rfl, rfl⟩), rfl, rfl⟩
      · refine g_iconst dX7_fault_30 ?_
        exact g_iret hRet dX7_fault_31 rfl ⟨(-1), nf, fm, fa, fb, (by unfold sp_fault; rw [if_pos (by omega)]; exact ⟨rfl, rfl, rfl, rfl, rfl⟩), rfl, rfl⟩
    · refine g_iconst dX7_fault_30 ?_
      exact g_iret hRet dX7_fault_31 rfl ⟨(-1), nf, fm, fa, fb, (by unfold sp_fault; rw [if_pos (by omega)]; exact ⟨rfl, rfl, rfl, rfl, rfl⟩), rfl, rfl⟩
  · refine g_iconst dX7_fault_30 ?_
    exact g_iret hRet dX7_fault_31 rfl ⟨(-1), nf, fm, fa, fb, (by unfold sp_fault; rw [if_pos (by omega)]; exact ⟨rfl, rfl, rfl, rfl, rfl⟩), rfl, rfl⟩

set_option maxHeartbeats 4000000 in
set_option maxRecDepth 100000 in
theorem c_X7_supply (E : Ev) (m0 : Nat) (ra : Nat → Nat) (mm : Int) (nf : Int) (ti : Int) (so : Int) (ta : Int) (go : Int) (sl : Int) (lo : Int) (cn : Int) (lx : Int) (ly : Int) (pm : Int) (pi : Int) (n : Int) (hM : 2 ≤ mm ∧ mm ≤ 6) (hti : 0 ≤ ti ∧ ti ≤ 10000) (hso : 0 ≤ so ∧ so ≤ 100000) (hgo : 0 ≤ go ∧ go ≤ 20000) (hcn : 0 ≤ cn ∧ cn ≤ 200) (hlo : 0 ≤ lo ∧ lo ≤ 15) (h_n : -2147483648 ≤ n ∧ n ≤ 2147483647) : MI yX7_supply wsX7_supply ({ frames := 1, cells := 0, slots := 0, locals := 22 } : Room) E [] 0 0 [.ref m0, .int (iI n)] [(m0, oo 7 (fMo ra mm nf ti so ta go sl lo cn lx ly pm pi))] (fun r u => ∃ (x : Int), ∃ (so' : Int), sp_supply so n x so' ∧ r = iI x ∧ u = [(m0, oo 7 (fMo ra mm nf ti so' ta go sl lo cn lx ly pm pi))]) := by
  refine MI.of (cc := cX7_supply) (maxL := 2) (own := RX7) (by decide) rfl rfl rfl (Nat.le_of_ble_eq_true rfl) [(0, .ref m0), (1, .int (iI n))] rfl ?_
  intro X hin2 hRet
  refine g_iload_n 1 dX7_supply_0 rfl rfl ?_
  refine g_iconst dX7_supply_1 ?_
  refine g_sipush dX7_supply_2 rfl ?_
  refine g_callS_i (n := 3) (As := [.int (iI n), .int (iI 1), .int (iI 1000)]) (wr := [(m0, oo 7 (fMo ra mm nf ti so ta go sl lo cn lx ly pm pi))]) [] (c_X7_in E n 1 1000 (by omega) (by omega) (by omega)) [] [0] gX7_supply_X7_in rfl ⟨rfl, by decide +kernel⟩ ⟨by decide, by decide⟩ rfl rfl rfl rfl rfl (by decide) rfl (by decide) (by decide) (fun _ h => absurd h List.not_mem_nil) dX7_supply_5 rfl (Nat.le_of_ble_eq_true rfl) ⟨by decide, by decide⟩ (fun r u p_1 => ?_)
  obtain ⟨rfl, rfl⟩ := p_1
  refine g_perm (ws1 := [(m0, oo 7 (fMo ra mm nf ti so ta go sl lo cn lx ly pm pi))]) [0] rfl (by decide) rfl ?_
  refine g_if_ne_b (tgt := 13) dX7_supply_8 rfl (fun c_2 => ?_) (fun c_2 => ?_)
  · refine g_aload_n 0 dX7_supply_13 rfl rfl ?_
    refine g_get (C := RX7) (T := TX7) (N := 43) 0 19 (fun _ h => List.mem_cons_of_mem _ (List.mem_append_right _ h)) (List.mem_of_getElem? (i := 1) rfl) rfl rfl (by decide) rfl rfl dX7_supply_14 ?_
    refine g_iload_n 1 dX7_supply_17 rfl rfl ?_
    refine g_iadd dX7_supply_18 ?_
    refine g_ldc (index := 135) 100000 (List.mem_of_getElem? (i := 2) rfl) dX7_supply_19 rfl ?_
    refine g_icmp_le (tgt := 27) (by unfold R32; omega) (by unfold R32; omega) dX7_supply_21 rfl (fun c_3 => ?_) (fun c_3 => ?_)
    · refine g_aload_n 0 dX7_supply_27 rfl rfl ?_
      refine g_dup dX7_supply_28 rfl ?_
      refine g_get (C := RX7) (T := TX7) (N := 43) 0 19 (fun _ h => List.mem_cons_of_mem _ (List.mem_append_right _ h)) (List.mem_of_getElem? (i := 1) rfl) rfl rfl (by decide) rfl rfl dX7_supply_29 ?_
      refine g_iload_n 1 dX7_supply_32 rfl rfl ?_
      refine g_iadd dX7_supply_33 ?_
      refine g_put (C := RX7) (T := TX7) (N := 43) (ws1 := [(m0, oo 7 (fMo ra mm nf ti (so + n) ta go sl lo cn lx ly pm pi))]) 0 19 (fun _ h => List.mem_cons_of_mem _ (List.mem_append_right _ h)) tyX7 tyX7_ok nmX7 (List.mem_of_getElem? (i := 1) rfl) rfl rfl (by decide) rfl (tyX7_ok 19 (by decide)) rfl rfl (by first | decide | exact Nat.le_of_ble_eq_true rfl) dX7_supply_34 rfl rfl ?_
      refine g_aload_n 0 dX7_supply_37 rfl rfl ?_
      refine g_get (C := RX7) (T := TX7) (N := 43) 0 19 (fun _ h => List.mem_cons_of_mem _ (List.mem_append_right _ h)) (List.mem_of_getElem? (i := 1) rfl) rfl rfl (by decide) rfl rfl dX7_supply_38 ?_
      exact g_iret hRet dX7_supply_41 rfl ⟨(so + n), (so + n), (by unfold sp_supply; rw [if_neg (by omega), if_neg (by omega)]; exact ⟨rfl, rfl⟩), rfl, rfl⟩
    · refine g_bipush dX7_supply_24 rfl ?_
      exact g_iret hRet dX7_supply_26 rfl ⟨(-3), so, (by unfold sp_supply; rw [if_neg (by omega), if_pos (by omega)]; exact ⟨rfl, rfl⟩), rfl, rfl⟩
  · refine g_iconst dX7_supply_11 ?_
    exact g_iret hRet dX7_supply_12 rfl ⟨(-1), so, (by unfold sp_supply; rw [if_pos (by omega)]; exact ⟨rfl, rfl⟩), rfl, rfl⟩

set_option maxHeartbeats 4000000 in
set_option maxRecDepth 100000 in
theorem c_X7_confirm (E : Ev) (m0 : Nat) (ra : Nat → Nat) (mm : Int) (nf : Int) (ti : Int) (so : Int) (ta : Int) (go : Int) (sl : Int) (lo : Int) (cn : Int) (lx : Int) (ly : Int) (pm : Int) (pi : Int) (g : Int → Int → Int) (i : Int) (hM : 2 ≤ mm ∧ mm ≤ 6) (hti : 0 ≤ ti ∧ ti ≤ 10000) (hso : 0 ≤ so ∧ so ≤ 100000) (hgo : 0 ≤ go ∧ go ≤ 20000) (hcn : 0 ≤ cn ∧ cn ≤ 200) (hlo : 0 ≤ lo ∧ lo ≤ 15) (h_i : -2147483648 ≤ i ∧ i ≤ 2147483647) : MI yX7_confirm wsX7_confirm ({ frames := 2, cells := 0, slots := 0, locals := 43 } : Room) E [] 0 0 [.ref m0, .int (iI i)] [(m0, oo 7 (fMo ra mm nf ti so ta go sl lo cn lx ly pm pi)), (ra 12, aI E 6 (fun j => g j 7))] (fun r u => ∃ (x : Int), ∃ (g' : Int → Int → Int), sp_confirm mm g i x g' ∧ r = iI x ∧ u = [(m0, oo 7 (fMo ra mm nf ti so ta go sl lo cn lx ly pm pi)), (ra 12, aI E 6 (fun j => g' j 7))]) := by
  refine MI.of (cc := cX7_confirm) (maxL := 3) (own := RX7) (by decide) rfl rfl rfl (Nat.le_of_ble_eq_true rfl) [(0, .ref m0), (1, .int (iI i))] rfl ?_
  intro X hin2 hRet
  refine g_aload_n 0 dX7_confirm_0 rfl rfl ?_
  refine g_iload_n 1 dX7_confirm_1 rfl rfl ?_
  refine g_callV_i (n := 1) (As := [.int (iI i)]) (wr := [(ra 12, aI E 6 (fun j => g j 7))]) (C := RX7) [] (c_X7_isMachine E m0 ra mm nf ti so ta go sl lo cn lx ly pm pi i (by omega) (by omega) (by omega) (by omega) (by omega) (by omega) (by omega)) [0] [1] 0 rfl rfl gX7_confirm_X7_isMachine rfl ⟨rfl, by decide +kernel⟩ ⟨by decide, by decide⟩ rfl rfl rfl rfl rfl (by decide) rfl (by decide) (by decide) (fun _ h => absurd h List.not_mem_nil) dX7_confirm_2 rfl (Nat.le_of_ble_eq_true rfl) ⟨by decide, by decide⟩ (fun r u p_1 => ?_)
  obtain ⟨rfl, rfl⟩ := p_1
  refine g_perm (ws1 := [(m0, oo 7 (fMo ra mm nf ti so ta go sl lo cn lx ly pm pi)), (ra 12, aI E 6 (fun j => g j 7))]) [1, 0] rfl (by decide) rfl ?_
  refine g_if_ne_b (tgt := 10) dX7_confirm_5 rfl (fun c_2 => ?_) (fun c_2 => ?_)
  · refine g_aload_n 0 dX7_confirm_10 rfl rfl ?_
    refine g_get (C := RX7) (T := TX7) (N := 43) 0 12 (fun _ h => List.mem_cons_of_mem _ (List.mem_append_right _ h)) (List.mem_of_getElem? (i := 1) rfl) rfl rfl (by decide) rfl rfl dX7_confirm_11 ?_
    refine g_iload_n 1 dX7_confirm_14 rfl rfl ?_
    refine g_iald 1 dX7_confirm_15 rfl (by decide) (by omega) (by omega) ?_
    refine g_top (y := iI (g i 7)) rfl ?_
    refine g_istore_n (lv1 := [(2, .int (iI (g i 7))), (0, .ref m0), (1, .int (iI i))]) dX7_confirm_16 rfl (by decide) rfl ?_
    refine g_aload_n 1 dX7_confirm_17 rfl rfl ?_
    refine g_get (C := RX7) (T := TX7) (N := 43) 0 12 (fun _ h => List.mem_cons_of_mem _ (List.mem_append_right _ h)) (List.mem_of_getElem? (i := 1) rfl) rfl rfl (by decide) rfl rfl dX7_confirm_18 ?_
    refine g_iload_n 2 dX7_confirm_21 rfl rfl ?_
    refine g_iconst dX7_confirm_22 ?_
    refine g_iast (ws1 := [(m0, oo 7 (fMo ra mm nf ti so ta go sl lo cn lx ly pm pi)), (ra 12, aI E 6 (up (fun j => g j 7) i 0))]) 1 dX7_confirm_23 rfl rfl (by decide) (by omega) (by omega) ?_
    have hC_3 : (fun j => ug g i (up (g i) 7 0) j 7) = (up (fun j => g j 7) i 0) := by rw [colU]; rfl
    refine g_as (ws1 := [(m0, oo 7 (fMo ra mm nf ti so ta go sl lo cn lx ly pm pi)), (ra 12, aI E 6 (fun j => ug g i (up (g i) 7 0) j 7))]) ?_ (by rw [hC_3]) rfl rfl
    refine g_iload_n 0 dX7_confirm_24 rfl rfl ?_
    exact g_iret hRet dX7_confirm_25 rfl ⟨(g i 7), (ug g i (up (g i) 7 0)), (by unfold sp_confirm; rw [if_pos (by omega)]; exact ⟨rfl, rfl⟩), rfl, rfl⟩
  · refine g_iconst dX7_confirm_8 ?_
    exact g_iret hRet dX7_confirm_9 rfl ⟨(-1), g, (by unfold sp_confirm; rw [if_neg (by omega)]; exact ⟨rfl, rfl⟩), rfl, rfl⟩

theorem wk_neg {t : Int} {c : Int → Int} (h : kOk t c) : (wkOf c < 0 → bI (c 1 ≠ 0 ∨ c 2 ≠ 0) = 0) ∧ (0 ≤ wkOf c → bI (c 1 ≠ 0 ∨ c 2 ≠ 0) = 1) ∧ -1 ≤ wkOf c ∧ wkOf c ≤ 100 := by
  have w := wk_d h
  have e1 : c 1 ≠ 0 ∨ c 2 ≠ 0 → bI (c 1 ≠ 0 ∨ c 2 ≠ 0) = 1 := fun q => if_pos q
  have e2 : ¬ (c 1 ≠ 0 ∨ c 2 ≠ 0) → bI (c 1 ≠ 0 ∨ c 2 ≠ 0) = 0 := fun q => if_neg q
  generalize bI (c 1 ≠ 0 ∨ c 2 ≠ 0) = z at *
  omega

set_option maxHeartbeats 4000000 in
set_option maxRecDepth 100000 in
theorem c_X7_about (E : Ev) (m0 : Nat) (ra : Nat → Nat) (mm : Int) (nf : Int) (ti : Int) (so : Int) (ta : Int) (go : Int) (sl : Int) (lo : Int) (cn : Int) (lx : Int) (ly : Int) (pm : Int) (pi : Int) (g : Int → Int → Int) (i : Int) (what : Int) (hM : 2 ≤ mm ∧ mm ≤ 6) (hti : 0 ≤ ti ∧ ti ≤ 10000) (hso : 0 ≤ so ∧ so ≤ 100000) (hgo : 0 ≤ go ∧ go ≤ 20000) (hcn : 0 ≤ cn ∧ cn ≤ 200) (hlo : 0 ≤ lo ∧ lo ≤ 15) (hgk : ∀ j, 0 ≤ j → j < 6 → kOk ti (g j)) (h_i : -2147483648 ≤ i ∧ i ≤ 2147483647) (h_what : -2147483648 ≤ what ∧ what ≤ 2147483647) : MI yX7_about wsX7_about ({ frames := 2, cells := 0, slots := 0, locals := 43 } : Room) E [] 0 0 [.ref m0, .int (iI i), .int (iI what)] [(m0, oo 7 (fMo ra mm nf ti so ta go sl lo cn lx ly pm pi)), (ra 6, aI E 6 (fun j => g j 9)), (ra 7, aI E 6 (fun j => g j 4)), (ra 8, aI E 6 (fun j => g j 5)), (ra 9, aI E 6 (fun j => g j 6)), (ra 11, aI E 6 (fun j => wkOf (g j))), (ra 5, aI E 6 (fun j => g j 0)), (ra 12, aI E 6 (fun j => g j 7)), (ra 10, aI E 6 (fun j => g j 10))] (fun r u => r = iI (f_about mm g i what) ∧ u = [(m0, oo 7 (fMo ra mm nf ti so ta go sl lo cn lx ly pm pi)), (ra 6, aI E 6 (fun j => g j 9)), (ra 7, aI E 6 (fun j => g j 4)), (ra 8, aI E 6 (fun j => g j 5)), (ra 9, aI E 6 (fun j => g j 6)), (ra 11, aI E 6 (fun j => wkOf (g j))), (ra 5, aI E 6 (fun j => g j 0)), (ra 12, aI E 6 (fun j => g j 7)), (ra 10, aI E 6 (fun j => g j 10))]) := by
  refine MI.of (cc := cX7_about) (maxL := 3) (own := RX7) (by decide) rfl rfl rfl (Nat.le_of_ble_eq_true rfl) [(0, .ref m0), (1, .int (iI i)), (2, .int (iI what))] rfl ?_
  intro X hin2 hRet
  refine g_aload_n 0 dX7_about_0 rfl rfl ?_
  refine g_iload_n 1 dX7_about_1 rfl rfl ?_
  refine g_callV_i (n := 1) (As := [.int (iI i)]) (wr := [(ra 6, aI E 6 (fun j => g j 9)), (ra 7, aI E 6 (fun j => g j 4)), (ra 8, aI E 6 (fun j => g j 5)), (ra 9, aI E 6 (fun j => g j 6)), (ra 11, aI E 6 (fun j => wkOf (g j))), (ra 5, aI E 6 (fun j => g j 0)), (ra 12, aI E 6 (fun j => g j 7)), (ra 10, aI E 6 (fun j => g j 10))]) (C := RX7) [] (c_X7_isMachine E m0 ra mm nf ti so ta go sl lo cn lx ly pm pi i (by omega) (by omega) (by omega) (by omega) (by omega) (by omega) (by omega)) [0] [1, 2, 3, 4, 5, 6, 7, 8] 0 rfl rfl gX7_about_X7_isMachine rfl ⟨rfl, by decide +kernel⟩ ⟨by decide, by decide⟩ rfl rfl rfl rfl rfl (by decide) rfl (by decide) (by decide) (fun _ h => absurd h List.not_mem_nil) dX7_about_2 rfl (Nat.le_of_ble_eq_true rfl) ⟨by decide, by decide⟩ (fun r u p_1 => ?_)
  obtain ⟨rfl, rfl⟩ := p_1
  refine g_perm (ws1 := [(m0, oo 7 (fMo ra mm nf ti so ta go sl lo cn lx ly pm pi)), (ra 6, aI E 6 (fun j => g j 9)), (ra 7, aI E 6 (fun j => g j 4)), (ra 8, aI E 6 (fun j => g j 5)), (ra 9, aI E 6 (fun j => g j 6)), (ra 11, aI E 6 (fun j => wkOf (g j))), (ra 5, aI E 6 (fun j => g j 0)), (ra 12, aI E 6 (fun j => g j 7)), (ra 10, aI E 6 (fun j => g j 10))]) [8, 0, 1, 2, 3, 4, 5, 6, 7] rfl (by decide) rfl ?_
  refine g_if_eq_b (tgt := 18) dX7_about_5 rfl (fun c_2 => ?_) (fun c_2 => ?_)
  · refine g_iload_n 2 dX7_about_8 rfl rfl ?_
    refine g_iconst dX7_about_9 ?_
    refine g_bipush dX7_about_10 rfl ?_
    refine g_callS_i (n := 3) (As := [.int (iI what), .int (iI 0), .int (iI 7)]) (wr := [(m0, oo 7 (fMo ra mm nf ti so ta go sl lo cn lx ly pm pi)), (ra 6, aI E 6 (fun j => g j 9)), (ra 7, aI E 6 (fun j => g j 4)), (ra 8, aI E 6 (fun j => g j 5)), (ra 9, aI E 6 (fun j => g j 6)), (ra 11, aI E 6 (fun j => wkOf (g j))), (ra 5, aI E 6 (fun j => g j 0)), (ra 12, aI E 6 (fun j => g j 7)), (ra 10, aI E 6 (fun j => g j 10))]) [] (c_X7_in E what 0 7 (by omega) (by omega) (by omega)) [] [0, 1, 2, 3, 4, 5, 6, 7, 8] gX7_about_X7_in rfl ⟨rfl, by decide +kernel⟩ ⟨by decide, by decide⟩ rfl rfl rfl rfl rfl (by decide) rfl (by decide) (by decide) (fun _ h => absurd h List.not_mem_nil) dX7_about_12 rfl (Nat.le_of_ble_eq_true rfl) ⟨by decide, by decide⟩ (fun r u p_3 => ?_)
    obtain ⟨rfl, rfl⟩ := p_3
    refine g_perm (ws1 := [(m0, oo 7 (fMo ra mm nf ti so ta go sl lo cn lx ly pm pi)), (ra 6, aI E 6 (fun j => g j 9)), (ra 7, aI E 6 (fun j => g j 4)), (ra 8, aI E 6 (fun j => g j 5)), (ra 9, aI E 6 (fun j => g j 6)), (ra 11, aI E 6 (fun j => wkOf (g j))), (ra 5, aI E 6 (fun j => g j 0)), (ra 12, aI E 6 (fun j => g j 7)), (ra 10, aI E 6 (fun j => g j 10))]) [0, 1, 2, 3, 4, 5, 6, 7, 8] rfl (by decide) rfl ?_
    refine g_if_ne_b (tgt := 20) dX7_about_15 rfl (fun c_4 => ?_) (fun c_4 => ?_)
    · refine g_iload_n 2 dX7_about_20 rfl rfl ?_
      rcases (show what = 0 ∨ what = 1 ∨ what = 2 ∨ what = 3 ∨ what = 4 ∨ what = 5 ∨ what = 6 ∨ (what < 0 ∨ 6 < what) by omega) with c_5 | c_5 | c_5 | c_5 | c_5 | c_5 | c_5 | c_5
      · refine g_tableIn (tgt := 64) (off := 43) (by unfold R32; omega) dX7_about_21 (by omega) (by rw [c_5]; rfl) rfl ?_
        refine g_aload_n 0 dX7_about_64 rfl rfl ?_
        refine g_get (C := RX7) (T := TX7) (N := 43) 0 6 (fun _ h => List.mem_cons_of_mem _ (List.mem_append_right _ h)) (List.mem_of_getElem? (i := 1) rfl) rfl rfl (by decide) rfl rfl dX7_about_65 ?_
        refine g_iload_n 1 dX7_about_68 rfl rfl ?_
        refine g_iald 1 dX7_about_69 rfl (by decide) (by omega) (by omega) ?_
        refine g_top (y := iI (g i 9)) rfl ?_
        exact g_iret hRet dX7_about_70 rfl ⟨(congrArg iI (by unfold f_about; first | (rw [if_pos (by omega)]; done) | ((repeat' split) <;> first | rfl | (exfalso; omega) | (have q9 := wk_neg (hgk i (by omega) (by omega)); omega)))), rfl⟩
      · refine g_tableIn (tgt := 71) (off := 50) (by unfold R32; omega) dX7_about_21 (by omega) (by rw [c_5]; rfl) rfl ?_
        refine g_aload_n 0 dX7_about_71 rfl rfl ?_
        refine g_get (C := RX7) (T := TX7) (N := 43) 0 7 (fun _ h => List.mem_cons_of_mem _ (List.mem_append_right _ h)) (List.mem_of_getElem? (i := 2) rfl) rfl rfl (by decide) rfl rfl dX7_about_72 ?_
        refine g_iload_n 1 dX7_about_75 rfl rfl ?_
        refine g_iald 2 dX7_about_76 rfl (by decide) (by omega) (by omega) ?_
        refine g_top (y := iI (g i 4)) rfl ?_
        exact g_iret hRet dX7_about_77 rfl ⟨(congrArg iI (by unfold f_about; first | (rw [if_pos (by omega)]; done) | ((repeat' split) <;> first | rfl | (exfalso; omega) | (have q9 := wk_neg (hgk i (by omega) (by omega)); omega)))), rfl⟩
      · refine g_tableIn (tgt := 78) (off := 57) (by unfold R32; omega) dX7_about_21 (by omega) (by rw [c_5]; rfl) rfl ?_
        refine g_aload_n 0 dX7_about_78 rfl rfl ?_
        refine g_get (C := RX7) (T := TX7) (N := 43) 0 8 (fun _ h => List.mem_cons_of_mem _ (List.mem_append_right _ h)) (List.mem_of_getElem? (i := 3) rfl) rfl rfl (by decide) rfl rfl dX7_about_79 ?_
        refine g_iload_n 1 dX7_about_82 rfl rfl ?_
        refine g_iald 3 dX7_about_83 rfl (by decide) (by omega) (by omega) ?_
        refine g_top (y := iI (g i 5)) rfl ?_
        exact g_iret hRet dX7_about_84 rfl ⟨(congrArg iI (by unfold f_about; first | (rw [if_pos (by omega)]; done) | ((repeat' split) <;> first | rfl | (exfalso; omega) | (have q9 := wk_neg (hgk i (by omega) (by omega)); omega)))), rfl⟩
      · refine g_tableIn (tgt := 85) (off := 64) (by unfold R32; omega) dX7_about_21 (by omega) (by rw [c_5]; rfl) rfl ?_
        refine g_aload_n 0 dX7_about_85 rfl rfl ?_
        refine g_get (C := RX7) (T := TX7) (N := 43) 0 9 (fun _ h => List.mem_cons_of_mem _ (List.mem_append_right _ h)) (List.mem_of_getElem? (i := 4) rfl) rfl rfl (by decide) rfl rfl dX7_about_86 ?_
        refine g_iload_n 1 dX7_about_89 rfl rfl ?_
        refine g_iald 4 dX7_about_90 rfl (by decide) (by omega) (by omega) ?_
        refine g_top (y := iI (g i 6)) rfl ?_
        exact g_iret hRet dX7_about_91 rfl ⟨(congrArg iI (by unfold f_about; first | (rw [if_pos (by omega)]; done) | ((repeat' split) <;> first | rfl | (exfalso; omega) | (have q9 := wk_neg (hgk i (by omega) (by omega)); omega)))), rfl⟩
      · refine g_tableIn (tgt := 92) (off := 71) (by unfold R32; omega) dX7_about_21 (by omega) (by rw [c_5]; rfl) rfl ?_
        refine g_aload_n 0 dX7_about_92 rfl rfl ?_
        refine g_get (C := RX7) (T := TX7) (N := 43) 0 11 (fun _ h => List.mem_cons_of_mem _ (List.mem_append_right _ h)) (List.mem_of_getElem? (i := 5) rfl) rfl rfl (by decide) rfl rfl dX7_about_93 ?_
        refine g_iload_n 1 dX7_about_96 rfl rfl ?_
        refine g_iald 5 dX7_about_97 rfl (by decide) (by omega) (by omega) ?_
        refine g_top (y := iI (wkOf (g i))) rfl ?_
        refine g_if_ge (tgt := 105) (by have q9 := wk_neg (hgk i (by omega) (by omega)); unfold R32; omega) dX7_about_98 rfl (fun c_6 => ?_) (fun c_6 => ?_)
        · refine g_iconst dX7_about_105 ?_
          exact g_iret hRet dX7_about_106 rfl ⟨(congrArg iI (by unfold f_about; first | (rw [if_pos (by omega)]; done) | ((repeat' split) <;> first | rfl | (exfalso; omega) | (have q9 := wk_neg (hgk i (by omega) (by omega)); omega)))), rfl⟩
        · refine g_iconst dX7_about_101 ?_
          refine g_goto (tgt := 106) dX7_about_102 rfl ?_
          exact g_iret hRet dX7_about_106 rfl ⟨(congrArg iI (by unfold f_about; first | (rw [if_pos (by omega)]; done) | ((repeat' split) <;> first | rfl | (exfalso; omega) | (have q9 := wk_neg (hgk i (by omega) (by omega)); omega)))), rfl⟩
      · refine g_tableIn (tgt := 107) (off := 86) (by unfold R32; omega) dX7_about_21 (by omega) (by rw [c_5]; rfl) rfl ?_
        refine g_aload_n 0 dX7_about_107 rfl rfl ?_
        refine g_get (C := RX7) (T := TX7) (N := 43) 0 5 (fun _ h => List.mem_cons_of_mem _ (List.mem_append_right _ h)) (List.mem_of_getElem? (i := 6) rfl) rfl rfl (by decide) rfl rfl dX7_about_108 ?_
        refine g_iload_n 1 dX7_about_111 rfl rfl ?_
        refine g_iald 6 dX7_about_112 rfl (by decide) (by omega) (by omega) ?_
        refine g_top (y := iI (g i 0)) rfl ?_
        exact g_iret hRet dX7_about_113 rfl ⟨(congrArg iI (by unfold f_about; first | (rw [if_pos (by omega)]; done) | ((repeat' split) <;> first | rfl | (exfalso; omega) | (have q9 := wk_neg (hgk i (by omega) (by omega)); omega)))), rfl⟩
      · refine g_tableIn (tgt := 114) (off := 93) (by unfold R32; omega) dX7_about_21 (by omega) (by rw [c_5]; rfl) rfl ?_
        refine g_aload_n 0 dX7_about_114 rfl rfl ?_
        refine g_get (C := RX7) (T := TX7) (N := 43) 0 12 (fun _ h => List.mem_cons_of_mem _ (List.mem_append_right _ h)) (List.mem_of_getElem? (i := 7) rfl) rfl rfl (by decide) rfl rfl dX7_about_115 ?_
        refine g_iload_n 1 dX7_about_118 rfl rfl ?_
        refine g_iald 7 dX7_about_119 rfl (by decide) (by omega) (by omega) ?_
        refine g_top (y := iI (g i 7)) rfl ?_
        exact g_iret hRet dX7_about_120 rfl ⟨(congrArg iI (by unfold f_about; first | (rw [if_pos (by omega)]; done) | ((repeat' split) <;> first | rfl | (exfalso; omega) | (have q9 := wk_neg (hgk i (by omega) (by omega)); omega)))), rfl⟩
      · refine g_tableOut (tgt := 121) (by unfold R32; omega) dX7_about_21 c_5 rfl ?_
        refine g_aload_n 0 dX7_about_121 rfl rfl ?_
        refine g_get (C := RX7) (T := TX7) (N := 43) 0 10 (fun _ h => List.mem_cons_of_mem _ (List.mem_append_right _ h)) (List.mem_of_getElem? (i := 8) rfl) rfl rfl (by decide) rfl rfl dX7_about_122 ?_
        refine g_iload_n 1 dX7_about_125 rfl rfl ?_
        refine g_iald 8 dX7_about_126 rfl (by decide) (by omega) (by omega) ?_
        refine g_top (y := iI (g i 10)) rfl ?_
        exact g_iret hRet dX7_about_127 rfl ⟨(congrArg iI (by unfold f_about; first | (rw [if_pos (by omega)]; done) | ((repeat' split) <;> first | rfl | (exfalso; omega) | (have q9 := wk_neg (hgk i (by omega) (by omega)); omega)))), rfl⟩
    · refine g_iconst dX7_about_18 ?_
      exact g_iret hRet dX7_about_19 rfl ⟨(congrArg iI (by unfold f_about; first | (rw [if_pos (by omega)]; done) | ((repeat' split) <;> first | rfl | (exfalso; omega) | (have q9 := wk_neg (hgk i (by omega) (by omega)); omega)))), rfl⟩
  · refine g_iconst dX7_about_18 ?_
    exact g_iret hRet dX7_about_19 rfl ⟨(congrArg iI (by unfold f_about; first | (rw [if_pos (by omega)]; done) | ((repeat' split) <;> first | rfl | (exfalso; omega) | (have q9 := wk_neg (hgk i (by omega) (by omega)); omega)))), rfl⟩

set_option maxHeartbeats 4000000 in
set_option maxRecDepth 100000 in
theorem c_X7_cause (E : Ev) (m0 : Nat) (ra : Nat → Nat) (mm : Int) (nf : Int) (ti : Int) (so : Int) (ta : Int) (go : Int) (sl : Int) (lo : Int) (cn : Int) (lx : Int) (ly : Int) (pm : Int) (pi : Int) (ld : Int → Int) (what : Int) (hM : 2 ≤ mm ∧ mm ≤ 6) (hti : 0 ≤ ti ∧ ti ≤ 10000) (hso : 0 ≤ so ∧ so ≤ 100000) (hgo : 0 ≤ go ∧ go ≤ 20000) (hcn : 0 ≤ cn ∧ cn ≤ 200) (hlo : 0 ≤ lo ∧ lo ≤ 15) (h_what : -2147483648 ≤ what ∧ what ≤ 2147483647) : MI yX7_cause wsX7_cause ({ frames := 1, cells := 0, slots := 0, locals := 22 } : Room) E [] 0 0 [.ref m0, .int (iI what)] [(m0, oo 7 (fMo ra mm nf ti so ta go sl lo cn lx ly pm pi)), (ra 23, aI E 8 ld)] (fun r u => r = iI (f_cause ld what) ∧ u = [(m0, oo 7 (fMo ra mm nf ti so ta go sl lo cn lx ly pm pi)), (ra 23, aI E 8 ld)]) := by
  refine MI.of (cc := cX7_cause) (maxL := 2) (own := RX7) (by decide) rfl rfl rfl (Nat.le_of_ble_eq_true rfl) [(0, .ref m0), (1, .int (iI what))] rfl ?_
  intro X hin2 hRet
  refine g_iload_n 1 dX7_cause_0 rfl rfl ?_
  refine g_iconst dX7_cause_1 ?_
  refine g_bipush dX7_cause_2 rfl ?_
  refine g_callS_i (n := 3) (As := [.int (iI what), .int (iI 0), .int (iI 7)]) (wr := [(m0, oo 7 (fMo ra mm nf ti so ta go sl lo cn lx ly pm pi)), (ra 23, aI E 8 ld)]) [] (c_X7_in E what 0 7 (by omega) (by omega) (by omega)) [] [0, 1] gX7_cause_X7_in rfl ⟨rfl, by decide +kernel⟩ ⟨by decide, by decide⟩ rfl rfl rfl rfl rfl (by decide) rfl (by decide) (by decide) (fun _ h => absurd h List.not_mem_nil) dX7_cause_4 rfl (Nat.le_of_ble_eq_true rfl) ⟨by decide, by decide⟩ (fun r u p_1 => ?_)
  obtain ⟨rfl, rfl⟩ := p_1
  refine g_perm (ws1 := [(m0, oo 7 (fMo ra mm nf ti so ta go sl lo cn lx ly pm pi)), (ra 23, aI E 8 ld)]) [0, 1] rfl (by decide) rfl ?_
  refine g_if_eq_b (tgt := 19) dX7_cause_7 rfl (fun c_2 => ?_) (fun c_2 => ?_)
  · refine g_aload_n 0 dX7_cause_10 rfl rfl ?_
    refine g_get (C := RX7) (T := TX7) (N := 43) 0 23 (fun _ h => List.mem_cons_of_mem _ (List.mem_append_right _ h)) (List.mem_of_getElem? (i := 1) rfl) rfl rfl (by decide) rfl rfl dX7_cause_11 ?_
    refine g_iload_n 1 dX7_cause_14 rfl rfl ?_
    refine g_iald 1 dX7_cause_15 rfl (by decide) (by omega) (by omega) ?_
    refine g_goto (tgt := 20) dX7_cause_16 rfl ?_
    exact g_iret hRet dX7_cause_20 rfl ⟨(congrArg iI (by unfold f_cause; first | (rw [if_pos (by omega)]; done) | (rw [if_neg (by omega)]; done))), rfl⟩
  · refine g_iconst dX7_cause_19 ?_
    exact g_iret hRet dX7_cause_20 rfl ⟨(congrArg iI (by unfold f_cause; first | (rw [if_pos (by omega)]; done) | (rw [if_neg (by omega)]; done))), rfl⟩

set_option maxHeartbeats 4000000 in
set_option maxRecDepth 100000 in
theorem c_X7_book (E : Ev) (m0 : Nat) (ra : Nat → Nat) (mm : Int) (nf : Int) (ti : Int) (so : Int) (ta : Int) (go : Int) (sl : Int) (lo : Int) (cn : Int) (lx : Int) (ly : Int) (pm : Int) (pi : Int) (g : Int → Int → Int) (what : Int) (hM : 2 ≤ mm ∧ mm ≤ 6) (hti : 0 ≤ ti ∧ ti ≤ 10000) (hso : 0 ≤ so ∧ so ≤ 100000) (hgo : 0 ≤ go ∧ go ≤ 20000) (hcn : 0 ≤ cn ∧ cn ≤ 200) (hlo : 0 ≤ lo ∧ lo ≤ 15) (hgk : ∀ j, 0 ≤ j → j < 6 → kOk ti (g j)) (h_what : -2147483648 ≤ what ∧ what ≤ 2147483647) : MI yX7_book wsX7_book ({ frames := 0, cells := 0, slots := 0, locals := 0 } : Room) E [] 0 0 [.ref m0, .int (iI what)] [(m0, oo 7 (fMo ra mm nf ti so ta go sl lo cn lx ly pm pi)), (ra 8, aI E 6 (fun j => g j 5)), (ra 9, aI E 6 (fun j => g j 6)), (ra 5, aI E 6 (fun j => g j 0)), (ra 11, aI E 6 (fun j => wkOf (g j)))] (fun r u => r = iI (f_book mm ti so ta go sl g what) ∧ u = [(m0, oo 7 (fMo ra mm nf ti so ta go sl lo cn lx ly pm pi)), (ra 8, aI E 6 (fun j => g j 5)), (ra 9, aI E 6 (fun j => g j 6)), (ra 5, aI E 6 (fun j => g j 0)), (ra 11, aI E 6 (fun j => wkOf (g j)))]) := by
  refine MI.of (cc := cX7_book) (maxL := 6) (own := RX7) (by decide) rfl rfl rfl (Nat.le_of_ble_eq_true rfl) [(0, .ref m0), (1, .int (iI what))] rfl ?_
  intro X hin2 hRet
  refine g_iconst dX7_book_0 ?_
  refine g_istore_n (lv1 := [(2, .int (iI 0)), (0, .ref m0), (1, .int (iI what))]) dX7_book_1 rfl (by decide) rfl ?_
  refine g_iconst dX7_book_2 ?_
  refine g_istore_n (lv1 := [(3, .int (iI 0)), (2, .int (iI 0)), (0, .ref m0), (1, .int (iI what))]) dX7_book_3 rfl (by decide) rfl ?_
  refine g_iconst dX7_book_4 ?_
  refine g_istore (lv1 := [(4, .int (iI 0)), (3, .int (iI 0)), (2, .int (iI 0)), (0, .ref m0), (1, .int (iI what))]) dX7_book_5 (by decide) rfl ?_
  refine g_iconst dX7_book_7 ?_
  refine g_istore (lv1 := [(5, .int (iI 0)), (4, .int (iI 0)), (3, .int (iI 0)), (2, .int (iI 0)), (0, .ref m0), (1, .int (iI what))]) dX7_book_8 (by decide) rfl ?_
  refine g_lv (lv1 := [(0, .ref m0), (1, .int (iI what)), (2, .int (iI 0)), (3, .int (iI 0)), (4, .int (iI 0)), (5, .int (iI 0))]) [4, 5, 3, 2, 1, 0] rfl ?_
  have L10 : ∀ (nn : Nat) (k : Int) (u : Int) (v : Int) (w : Int) (hk : 0 ≤ k ∧ k ≤ mm) (hu : u = sI (fun j => g j 5) k) (hv : v = sI (fun j => g j 6) k) (hw : w = sI (oF g) k) (hm : mm - k < (nn : Int)), G X ({ frames := 0, cells := 0, slots := 0, locals := 0 } : Room) cX7_book 6 RX7 wsX7_book E [] 0 0 [(m0, oo 7 (fMo ra mm nf ti so ta go sl lo cn lx ly pm pi)), (ra 8, aI E 6 (fun j => g j 5)), (ra 9, aI E 6 (fun j => g j 6)), (ra 5, aI E 6 (fun j => g j 0)), (ra 11, aI E 6 (fun j => wkOf (g j)))] [(0, .ref m0), (1, .int (iI what)), (2, .int (iI u)), (3, .int (iI v)), (4, .int (iI w)), (5, .int (iI k))] 10 [] := by
    intro nn
    induction nn with
    | zero => intro k u v w hk hu hv hw hm; exfalso; omega
    | succ nn ih10 =>
      intro k u v w hk hu hv hw hm
      refine g_iload 5 dX7_book_10 rfl ?_
      refine g_aload_n 0 dX7_book_12 rfl rfl ?_
      refine g_get (C := RX7) (T := TX7) (N := 43) 0 0 (fun _ h => List.mem_cons_of_mem _ (List.mem_append_right _ h)) (List.mem_of_getElem? (i := 1) rfl) rfl rfl (by decide) rfl rfl dX7_book_13 ?_
      refine g_icmp_ge (tgt := 73) (by unfold R32; omega) (by unfold R32; omega) dX7_book_16 rfl (fun c_1 => ?_) (fun c_1 => ?_)
      · refine g_iload_n 1 dX7_book_73 rfl rfl ?_
        rcases (show what = 0 ∨ what = 1 ∨ what = 2 ∨ what = 3 ∨ what = 4 ∨ what = 5 ∨ what = 6 ∨ what = 7 ∨ (what < 0 ∨ 7 < what) by omega) with c_2 | c_2 | c_2 | c_2 | c_2 | c_2 | c_2 | c_2 | c_2
        · refine g_tableIn (tgt := 120) (off := 46) (by unfold R32; omega) dX7_book_74 (by omega) (by rw [c_2]; rfl) rfl ?_
          refine g_aload_n 0 dX7_book_120 rfl rfl ?_
          refine g_get (C := RX7) (T := TX7) (N := 43) 0 18 (fun _ h => List.mem_cons_of_mem _ (List.mem_append_right _ h)) (List.mem_of_getElem? (i := 6) rfl) rfl rfl (by decide) rfl rfl dX7_book_121 ?_
          exact g_iret hRet dX7_book_124 rfl ⟨(congrArg iI (by unfold f_book; have ek : k = mm := (by omega); subst ek; (repeat' split) <;> first | rfl | (exfalso; omega) | assumption)), rfl⟩
        · refine g_tableIn (tgt := 125) (off := 51) (by unfold R32; omega) dX7_book_74 (by omega) (by rw [c_2]; rfl) rfl ?_
          refine g_aload_n 0 dX7_book_125 rfl rfl ?_
          refine g_get (C := RX7) (T := TX7) (N := 43) 0 19 (fun _ h => List.mem_cons_of_mem _ (List.mem_append_right _ h)) (List.mem_of_getElem? (i := 7) rfl) rfl rfl (by decide) rfl rfl dX7_book_126 ?_
          exact g_iret hRet dX7_book_129 rfl ⟨(congrArg iI (by unfold f_book; have ek : k = mm := (by omega); subst ek; (repeat' split) <;> first | rfl | (exfalso; omega) | assumption)), rfl⟩
        · refine g_tableIn (tgt := 130) (off := 56) (by unfold R32; omega) dX7_book_74 (by omega) (by rw [c_2]; rfl) rfl ?_
          refine g_aload_n 0 dX7_book_130 rfl rfl ?_
          refine g_get (C := RX7) (T := TX7) (N := 43) 0 20 (fun _ h => List.mem_cons_of_mem _ (List.mem_append_right _ h)) (List.mem_of_getElem? (i := 8) rfl) rfl rfl (by decide) rfl rfl dX7_book_131 ?_
          exact g_iret hRet dX7_book_134 rfl ⟨(congrArg iI (by unfold f_book; have ek : k = mm := (by omega); subst ek; (repeat' split) <;> first | rfl | (exfalso; omega) | assumption)), rfl⟩
        · refine g_tableIn (tgt := 135) (off := 61) (by unfold R32; omega) dX7_book_74 (by omega) (by rw [c_2]; rfl) rfl ?_
          refine g_aload_n 0 dX7_book_135 rfl rfl ?_
          refine g_get (C := RX7) (T := TX7) (N := 43) 0 21 (fun _ h => List.mem_cons_of_mem _ (List.mem_append_right _ h)) (List.mem_of_getElem? (i := 9) rfl) rfl rfl (by decide) rfl rfl dX7_book_136 ?_
          exact g_iret hRet dX7_book_139 rfl ⟨(congrArg iI (by unfold f_book; have ek : k = mm := (by omega); subst ek; (repeat' split) <;> first | rfl | (exfalso; omega) | assumption)), rfl⟩
        · refine g_tableIn (tgt := 140) (off := 66) (by unfold R32; omega) dX7_book_74 (by omega) (by rw [c_2]; rfl) rfl ?_
          refine g_iload_n 2 dX7_book_140 rfl rfl ?_
          exact g_iret hRet dX7_book_141 rfl ⟨(congrArg iI (by unfold f_book; have ek : k = mm := (by omega); subst ek; (repeat' split) <;> first | rfl | (exfalso; omega) | assumption)), rfl⟩
        · refine g_tableIn (tgt := 142) (off := 68) (by unfold R32; omega) dX7_book_74 (by omega) (by rw [c_2]; rfl) rfl ?_
          refine g_iload_n 3 dX7_book_142 rfl rfl ?_
          exact g_iret hRet dX7_book_143 rfl ⟨(congrArg iI (by unfold f_book; have ek : k = mm := (by omega); subst ek; (repeat' split) <;> first | rfl | (exfalso; omega) | assumption)), rfl⟩
        · refine g_tableIn (tgt := 144) (off := 70) (by unfold R32; omega) dX7_book_74 (by omega) (by rw [c_2]; rfl) rfl ?_
          refine g_iload 4 dX7_book_144 rfl ?_
          exact g_iret hRet dX7_book_146 rfl ⟨(congrArg iI (by unfold f_book; have ek : k = mm := (by omega); subst ek; (repeat' split) <;> first | rfl | (exfalso; omega) | assumption)), rfl⟩
        · refine g_tableIn (tgt := 147) (off := 73) (by unfold R32; omega) dX7_book_74 (by omega) (by rw [c_2]; rfl) rfl ?_
          refine g_aload_n 0 dX7_book_147 rfl rfl ?_
          refine g_get (C := RX7) (T := TX7) (N := 43) 0 22 (fun _ h => List.mem_cons_of_mem _ (List.mem_append_right _ h)) (List.mem_of_getElem? (i := 10) rfl) rfl rfl (by decide) rfl rfl dX7_book_148 ?_
          exact g_iret hRet dX7_book_151 rfl ⟨(congrArg iI (by unfold f_book; have ek : k = mm := (by omega); subst ek; (repeat' split) <;> first | rfl | (exfalso; omega) | assumption)), rfl⟩
        · refine g_tableOut (tgt := 152) (by unfold R32; omega) dX7_book_74 c_2 rfl ?_
          refine g_iconst dX7_book_152 ?_
          exact g_iret hRet dX7_book_153 rfl ⟨(congrArg iI (by unfold f_book; have ek : k = mm := (by omega); subst ek; (repeat' split) <;> first | rfl | (exfalso; omega) | assumption)), rfl⟩
      · refine g_iload_n 2 dX7_book_19 rfl rfl ?_
        refine g_aload_n 0 dX7_book_20 rfl rfl ?_
        refine g_get (C := RX7) (T := TX7) (N := 43) 0 8 (fun _ h => List.mem_cons_of_mem _ (List.mem_append_right _ h)) (List.mem_of_getElem? (i := 2) rfl) rfl rfl (by decide) rfl rfl dX7_book_21 ?_
        refine g_iload 5 dX7_book_24 rfl ?_
        refine g_iald 1 dX7_book_26 rfl (by decide) (by omega) (by omega) ?_
        refine g_top (y := iI (g k 5)) rfl ?_
        refine g_iadd dX7_book_27 ?_
        refine g_istore_n (lv1 := [(2, .int (iI (u + (g k 5)))), (0, .ref m0), (1, .int (iI what)), (3, .int (iI v)), (4, .int (iI w)), (5, .int (iI k))]) dX7_book_28 rfl (by decide) rfl ?_
        refine g_iload_n 3 dX7_book_29 rfl rfl ?_
        refine g_aload_n 1 dX7_book_30 rfl rfl ?_
        refine g_get (C := RX7) (T := TX7) (N := 43) 0 9 (fun _ h => List.mem_cons_of_mem _ (List.mem_append_right _ h)) (List.mem_of_getElem? (i := 3) rfl) rfl rfl (by decide) rfl rfl dX7_book_31 ?_
        refine g_iload 5 dX7_book_34 rfl ?_
        refine g_iald 2 dX7_book_36 rfl (by decide) (by omega) (by omega) ?_
        refine g_top (y := iI (g k 6)) rfl ?_
        refine g_iadd dX7_book_37 ?_
        refine g_istore_n (lv1 := [(3, .int (iI (v + (g k 6)))), (2, .int (iI (u + (g k 5)))), (0, .ref m0), (1, .int (iI what)), (4, .int (iI w)), (5, .int (iI k))]) dX7_book_38 rfl (by decide) rfl ?_
        refine g_iload 4 dX7_book_39 rfl ?_
        refine g_aload_n 2 dX7_book_41 rfl rfl ?_
        refine g_get (C := RX7) (T := TX7) (N := 43) 0 5 (fun _ h => List.mem_cons_of_mem _ (List.mem_append_right _ h)) (List.mem_of_getElem? (i := 4) rfl) rfl rfl (by decide) rfl rfl dX7_book_42 ?_
        refine g_iload 5 dX7_book_45 rfl ?_
        refine g_iald 3 dX7_book_47 rfl (by decide) (by omega) (by omega) ?_
        refine g_top (y := iI (g k 0)) rfl ?_
        refine g_aload_n 2 dX7_book_48 rfl rfl ?_
        refine g_get (C := RX7) (T := TX7) (N := 43) 0 11 (fun _ h => List.mem_cons_of_mem _ (List.mem_append_right _ h)) (List.mem_of_getElem? (i := 5) rfl) rfl rfl (by decide) rfl rfl dX7_book_49 ?_
        refine g_iload 5 dX7_book_52 rfl ?_
        refine g_iald 4 dX7_book_54 rfl (by decide) (by omega) (by omega) ?_
        refine g_top (y := iI (wkOf (g k))) rfl ?_
        refine g_if_ge (tgt := 62) (by have q9 := wk_neg (hgk k (by omega) (by omega)); unfold R32; omega) dX7_book_55 rfl (fun c_3 => ?_) (fun c_3 => ?_)
        · refine g_iconst dX7_book_62 ?_
          refine g_iadd dX7_book_63 ?_
          refine g_iadd dX7_book_64 ?_
          refine g_istore (lv1 := [(4, .int (iI (w + ((g k 0) + 1)))), (3, .int (iI (v + (g k 6)))), (2, .int (iI (u + (g k 5)))), (0, .ref m0), (1, .int (iI what)), (5, .int (iI k))]) dX7_book_65 (by decide) rfl ?_
          refine g_iinc (lv1 := [(5, .int (iI (k + 1))), (4, .int (iI (w + ((g k 0) + 1)))), (3, .int (iI (v + (g k 6)))), (2, .int (iI (u + (g k 5)))), (0, .ref m0), (1, .int (iI what))]) 5 dX7_book_67 rfl (by decide) rfl ?_
          refine g_goto (tgt := 10) dX7_book_70 rfl ?_
          refine g_lv (lv1 := [(0, .ref m0), (1, .int (iI what)), (2, .int (iI (u + (g k 5)))), (3, .int (iI (v + (g k 6)))), (4, .int (iI (w + ((g k 0) + 1)))), (5, .int (iI (k + 1)))]) [4, 5, 3, 2, 1, 0] rfl ?_
          exact ih10 (k + 1) (u + (g k 5)) (v + (g k 6)) (w + ((g k 0) + 1)) (by omega) (by rw [sI_s _ (by omega), ← hu]) (by rw [sI_s _ (by omega), ← hv]) (by rw [sI_s _ (by omega), ← hw]; have q9 := wk_neg (hgk k (by omega) (by omega)); have q8 : oF g k = bI (g k 1 ≠ 0 ∨ g k 2 ≠ 0) + g k 0 := rfl; omega) (by omega)
        · refine g_iconst dX7_book_58 ?_
          refine g_goto (tgt := 63) dX7_book_59 rfl ?_
          refine g_iadd dX7_book_63 ?_
          refine g_iadd dX7_book_64 ?_
          refine g_istore (lv1 := [(4, .int (iI (w + ((g k 0) + 0)))), (3, .int (iI (v + (g k 6)))), (2, .int (iI (u + (g k 5)))), (0, .ref m0), (1, .int (iI what)), (5, .int (iI k))]) dX7_book_65 (by decide) rfl ?_
          refine g_iinc (lv1 := [(5, .int (iI (k + 1))), (4, .int (iI (w + ((g k 0) + 0)))), (3, .int (iI (v + (g k 6)))), (2, .int (iI (u + (g k 5)))), (0, .ref m0), (1, .int (iI what))]) 5 dX7_book_67 rfl (by decide) rfl ?_
          refine g_goto (tgt := 10) dX7_book_70 rfl ?_
          refine g_lv (lv1 := [(0, .ref m0), (1, .int (iI what)), (2, .int (iI (u + (g k 5)))), (3, .int (iI (v + (g k 6)))), (4, .int (iI (w + ((g k 0) + 0)))), (5, .int (iI (k + 1)))]) [4, 5, 3, 2, 1, 0] rfl ?_
          exact ih10 (k + 1) (u + (g k 5)) (v + (g k 6)) (w + ((g k 0) + 0)) (by omega) (by rw [sI_s _ (by omega), ← hu]) (by rw [sI_s _ (by omega), ← hv]) (by rw [sI_s _ (by omega), ← hw]; have q9 := wk_neg (hgk k (by omega) (by omega)); have q8 : oF g k = bI (g k 1 ≠ 0 ∨ g k 2 ≠ 0) + g k 0 := rfl; omega) (by omega)
  exact L10 _ 0 0 0 0 (by omega) (by rfl) (by rfl) (by rfl) (lt_nn _)

def bf (k V : Int) (f : Int → Int) : Int → Int := fun j => if 0 ≤ j ∧ j < k then V else f j
theorem bf_0 (V : Int) (f : Int → Int) : bf 0 V f = f := by
  funext j; unfold bf; rw [if_neg (by omega)]
theorem bf_s {k V : Int} {f : Int → Int} (h : 0 ≤ k) : up (bf k V f) k V = bf (k + 1) V f := by
  funext j; unfold up bf
  by_cases e : j = k
  · rw [if_pos e, if_pos (by omega)]
  · rw [if_neg e]
    by_cases e2 : 0 ≤ j ∧ j < k
    · rw [if_pos e2, if_pos (by omega)]
    · rw [if_neg e2, if_neg (by omega)]
/-- the first k of f, the rest of g -/
def cpI (k : Int) (f g : Int → Int) : Int → Int := fun j => if 0 ≤ j ∧ j < k then f j else g j
def s0 : Int → Int := fun f => if f = 0 then 1 else if f = 3 then 2 else 0
def c0 : Int → Int := fun f => if f = 9 then -4 else 0
def sL (S : Int → Int → Int) : Int → Int → Int := fun j => if 0 ≤ j ∧ j < 6 then cpI 4 s0 (S j) else S j
def gL (g : Int → Int → Int) : Int → Int → Int := fun j => if 0 ≤ j ∧ j < 6 then c0 else g j
def gLr (g : Int → Int → Int) : Int → Int → Int := fun j => if 0 ≤ j ∧ j < 6 then up c0 8 (g j 8) else g j
def sp_line (gl : (Int → Int → Int) → Int → Int → Int) (M ti so ta go sl nf : Int) (g S : Int → Int → Int) (ld : Int → Int) (n x M' ti' so' ta' go' sl' nf' : Int) (g' S' : Int → Int → Int) (ld' : Int → Int) : Prop :=
  if ¬ (2 ≤ n ∧ n ≤ 6) then x = -1 ∧ M' = M ∧ ti' = ti ∧ so' = so ∧ ta' = ta ∧ go' = go ∧ sl' = sl ∧ nf' = nf ∧ g' = g ∧ S' = S ∧ ld' = ld
  else x = n ∧ M' = n ∧ ti' = 0 ∧ so' = 0 ∧ ta' = 0 ∧ go' = 0 ∧ sl' = 0 ∧ nf' = 0 ∧ g' = gl g ∧ S' = sL S ∧ ld' = bf 8 0 ld
theorem col_s (S : Int → Int → Int) (f V : Int) (hf : 0 ≤ f ∧ f < 4) (h : s0 f = V) : (fun j => sL S j f) = bf 6 V (fun j => S j f) := by
  funext j
  show (if 0 ≤ j ∧ j < 6 then cpI 4 s0 (S j) else S j) f = if 0 ≤ j ∧ j < 6 then V else S j f
  split
  · exact (if_pos hf).trans h
  · rfl
theorem col_g (g : Int → Int → Int) (f V : Int) (hf : f ≠ 8) (h : c0 f = V) : (fun j => gLr g j f) = bf 6 V (fun j => g j f) := by
  funext j
  show (if 0 ≤ j ∧ j < 6 then up c0 8 (g j 8) else g j) f = if 0 ≤ j ∧ j < 6 then V else g j f
  split
  · rw [up_n _ _ hf]; exact h
  · rfl
theorem col_g8 (g : Int → Int → Int) : (fun j => gLr g j 8) = (fun j => g j 8) := by
  funext j
  show (if 0 ≤ j ∧ j < 6 then up c0 8 (g j 8) else g j) 8 = g j 8
  split
  · exact up_s _ _ _
  · rfl
theorem col_w (g : Int → Int → Int) : (fun j => wkOf (gLr g j)) = bf 6 (-1) (fun j => wkOf (g j)) := by
  funext j
  show wkOf (if 0 ≤ j ∧ j < 6 then up c0 8 (g j 8) else g j) = if 0 ≤ j ∧ j < 6 then -1 else wkOf (g j)
  split
  · rfl
  · rfl
def sp_change (ch : Int → Int) (a b v x : Int) (ch' : Int → Int) : Prop :=
  if ¬ ((0 ≤ a ∧ a ≤ 5) ∧ (0 ≤ b ∧ b ≤ 5) ∧ a ≠ b ∧ 0 ≤ v ∧ v ≤ 500) then x = -1 ∧ ch' = ch else x = ch (6 * a + b) ∧ ch' = up ch (6 * a + b) v
def sp_stain (sn : Int → Int) (k v x : Int) (sn' : Int → Int) : Prop := if ¬ ((0 ≤ k ∧ k ≤ 5) ∧ 0 ≤ v ∧ v ≤ 3) then x = -1 ∧ sn' = sn else x = sn k ∧ sn' = up sn k v
def f_min (ch sn : Int → Int) (cl a b : Int) : Int := ch (6 * a + b) + (if sn b < sn a then cl else 0)

set_option maxHeartbeats 4000000 in
set_option maxRecDepth 100000 in
theorem c_X7_begins (E : Ev) (m0 : Nat) (ra : Nat → Nat) (mm : Int) (nf : Int) (ti : Int) (so : Int) (ta : Int) (go : Int) (sl : Int) (lo : Int) (cn : Int) (lx : Int) (ly : Int) (pm : Int) (pi : Int) (p0 : Int → Int) (p1 : Int → Int) (p2 : Int → Int) (p3 : Int → Int) (p4 : Int → Int) (p5 : Int → Int) (p6 : Int → Int) (p7 : Int → Int) (p8 : Int → Int) (p9 : Int → Int) (p10 : Int → Int) (p11 : Int → Int) (ld : Int → Int) (n : Int) (hn : 2 ≤ n ∧ n ≤ 6) : MV yX7_begins wsX7_begins ({ frames := 0, cells := 0, slots := 0, locals := 0 } : Room) E [] 0 0 [.ref m0, .int (iI n)] [(m0, oo 7 (fMo ra mm nf ti so ta go sl lo cn lx ly pm pi)), (ra 1, aI E 6 p0), (ra 2, aI E 6 p1), (ra 3, aI E 6 p2), (ra 4, aI E 6 p3), (ra 5, aI E 6 p4), (ra 6, aI E 6 p5), (ra 7, aI E 6 p6), (ra 8, aI E 6 p7), (ra 9, aI E 6 p8), (ra 10, aI E 6 p9), (ra 11, aI E 6 p10), (ra 12, aI E 6 p11), (ra 23, aI E 8 ld)] (fun u => u = [(m0, oo 7 (fMo ra n 0 0 0 0 0 0 lo cn lx ly pm pi)), (ra 1, aI E 6 (bf 6 1 p0)), (ra 2, aI E 6 (bf 6 0 p1)), (ra 3, aI E 6 (bf 6 0 p2)), (ra 4, aI E 6 (bf 6 2 p3)), (ra 5, aI E 6 (bf 6 0 p4)), (ra 6, aI E 6 (bf 6 (-4) p5)), (ra 7, aI E 6 (bf 6 0 p6)), (ra 8, aI E 6 (bf 6 0 p7)), (ra 9, aI E 6 (bf 6 0 p8)), (ra 10, aI E 6 (bf 6 0 p9)), (ra 11, aI E 6 (bf 6 (-1) p10)), (ra 12, aI E 6 (bf 6 0 p11)), (ra 23, aI E 8 (bf 8 0 ld))]) := by
  refine MV.of (cc := cX7_begins) (maxL := 3) (own := RX7) (by decide) rfl rfl rfl (Nat.le_of_ble_eq_true rfl) [(0, .ref m0), (1, .int (iI n))] rfl ?_
  intro X hin2 hRet
  refine g_aload_n 0 dX7_begins_0 rfl rfl ?_
  refine g_iload_n 1 dX7_begins_1 rfl rfl ?_
  refine g_put (C := RX7) (T := TX7) (N := 43) (ws1 := [(m0, oo 7 (fMo ra n nf ti so ta go sl lo cn lx ly pm pi)), (ra 1, aI E 6 p0), (ra 2, aI E 6 p1), (ra 3, aI E 6 p2), (ra 4, aI E 6 p3), (ra 5, aI E 6 p4), (ra 6, aI E 6 p5), (ra 7, aI E 6 p6), (ra 8, aI E 6 p7), (ra 9, aI E 6 p8), (ra 10, aI E 6 p9), (ra 11, aI E 6 p10), (ra 12, aI E 6 p11), (ra 23, aI E 8 ld)]) 0 0 (fun _ h => List.mem_cons_of_mem _ (List.mem_append_right _ h)) tyX7 tyX7_ok nmX7 (List.mem_of_getElem? (i := 1) rfl) rfl rfl (by decide) rfl (tyX7_ok 0 (by decide)) rfl rfl (by first | decide | exact Nat.le_of_ble_eq_true rfl) dX7_begins_2 rfl rfl ?_
  refine g_as (ws1 := [(m0, oo 7 (fMo ra n nf ti so ta go sl lo cn lx ly pm pi)), (ra 1, aI E 6 (bf 0 1 p0)), (ra 2, aI E 6 (bf 0 0 p1)), (ra 3, aI E 6 (bf 0 0 p2)), (ra 4, aI E 6 (bf 0 2 p3)), (ra 5, aI E 6 (bf 0 0 p4)), (ra 6, aI E 6 (bf 0 (-4) p5)), (ra 7, aI E 6 (bf 0 0 p6)), (ra 8, aI E 6 (bf 0 0 p7)), (ra 9, aI E 6 (bf 0 0 p8)), (ra 10, aI E 6 (bf 0 0 p9)), (ra 11, aI E 6 (bf 0 (-1) p10)), (ra 12, aI E 6 (bf 0 0 p11)), (ra 23, aI E 8 ld)]) ?_ (by simp only [bf_0]) rfl rfl
  refine g_iconst dX7_begins_5 ?_
  refine g_istore_n (lv1 := [(2, .int (iI 0)), (0, .ref m0), (1, .int (iI n))]) dX7_begins_6 rfl (by decide) rfl ?_
  refine g_lv (lv1 := [(0, .ref m0), (1, .int (iI n)), (2, .int (iI 0))]) [1, 2, 0] rfl ?_
  have L7 : ∀ (nn : Nat) (k : Int) (hk : 0 ≤ k ∧ k ≤ 6) (hm : 6 - k < (nn : Int)), G X ({ frames := 0, cells := 0, slots := 0, locals := 0 } : Room) cX7_begins 3 RX7 wsX7_begins E [] 0 0 [(m0, oo 7 (fMo ra n nf ti so ta go sl lo cn lx ly pm pi)), (ra 1, aI E 6 (bf k 1 p0)), (ra 2, aI E 6 (bf k 0 p1)), (ra 3, aI E 6 (bf k 0 p2)), (ra 4, aI E 6 (bf k 2 p3)), (ra 5, aI E 6 (bf k 0 p4)), (ra 6, aI E 6 (bf k (-4) p5)), (ra 7, aI E 6 (bf k 0 p6)), (ra 8, aI E 6 (bf k 0 p7)), (ra 9, aI E 6 (bf k 0 p8)), (ra 10, aI E 6 (bf k 0 p9)), (ra 11, aI E 6 (bf k (-1) p10)), (ra 12, aI E 6 (bf k 0 p11)), (ra 23, aI E 8 ld)] [(0, .ref m0), (1, .int (iI n)), (2, .int (iI k))] 7 [] := by
    intro nn
    induction nn with
    | zero => intro k hk hm; exfalso; omega
    | succ nn ih7 =>
      intro k hk hm
      refine g_iload_n 2 dX7_begins_7 rfl rfl ?_
      refine g_bipush dX7_begins_8 rfl ?_
      refine g_icmp_ge (tgt := 104) (by unfold R32; omega) (by unfold R32; omega) dX7_begins_10 rfl (fun c_1 => ?_) (fun c_1 => ?_)
      · refine g_as (ws1 := [(m0, oo 7 (fMo ra n nf ti so ta go sl lo cn lx ly pm pi)), (ra 1, aI E 6 (bf 6 1 p0)), (ra 2, aI E 6 (bf 6 0 p1)), (ra 3, aI E 6 (bf 6 0 p2)), (ra 4, aI E 6 (bf 6 2 p3)), (ra 5, aI E 6 (bf 6 0 p4)), (ra 6, aI E 6 (bf 6 (-4) p5)), (ra 7, aI E 6 (bf 6 0 p6)), (ra 8, aI E 6 (bf 6 0 p7)), (ra 9, aI E 6 (bf 6 0 p8)), (ra 10, aI E 6 (bf 6 0 p9)), (ra 11, aI E 6 (bf 6 (-1) p10)), (ra 12, aI E 6 (bf 6 0 p11)), (ra 23, aI E 8 (bf 0 0 ld))]) ?_ (by rw [show k = 6 by omega, bf_0]) rfl rfl
        refine g_iconst dX7_begins_104 ?_
        refine g_istore_n (lv1 := [(2, .int (iI 0)), (0, .ref m0), (1, .int (iI n))]) dX7_begins_105 rfl (by decide) rfl ?_
        refine g_lv (lv1 := [(0, .ref m0), (1, .int (iI n)), (2, .int (iI 0))]) [1, 2, 0] rfl ?_
        have L106 : ∀ (nn : Nat) (q : Int) (hq : 0 ≤ q ∧ q ≤ 8) (hm : 8 - q < (nn : Int)), G X ({ frames := 0, cells := 0, slots := 0, locals := 0 } : Room) cX7_begins 3 RX7 wsX7_begins E [] 0 0 [(m0, oo 7 (fMo ra n nf ti so ta go sl lo cn lx ly pm pi)), (ra 1, aI E 6 (bf 6 1 p0)), (ra 2, aI E 6 (bf 6 0 p1)), (ra 3, aI E 6 (bf 6 0 p2)), (ra 4, aI E 6 (bf 6 2 p3)), (ra 5, aI E 6 (bf 6 0 p4)), (ra 6, aI E 6 (bf 6 (-4) p5)), (ra 7, aI E 6 (bf 6 0 p6)), (ra 8, aI E 6 (bf 6 0 p7)), (ra 9, aI E 6 (bf 6 0 p8)), (ra 10, aI E 6 (bf 6 0 p9)), (ra 11, aI E 6 (bf 6 (-1) p10)), (ra 12, aI E 6 (bf 6 0 p11)), (ra 23, aI E 8 (bf q 0 ld))] [(0, .ref m0), (1, .int (iI n)), (2, .int (iI q))] 106 [] := by
          intro nn
          induction nn with
          | zero => intro q hq hm; exfalso; omega
          | succ nn ih106 =>
            intro q hq hm
            refine g_iload_n 2 dX7_begins_106 rfl rfl ?_
            refine g_bipush dX7_begins_107 rfl ?_
            refine g_icmp_ge (tgt := 125) (by unfold R32; omega) (by unfold R32; omega) dX7_begins_109 rfl (fun c_2 => ?_) (fun c_2 => ?_)
            · refine g_as (ws1 := [(m0, oo 7 (fMo ra n nf ti so ta go sl lo cn lx ly pm pi)), (ra 1, aI E 6 (bf 6 1 p0)), (ra 2, aI E 6 (bf 6 0 p1)), (ra 3, aI E 6 (bf 6 0 p2)), (ra 4, aI E 6 (bf 6 2 p3)), (ra 5, aI E 6 (bf 6 0 p4)), (ra 6, aI E 6 (bf 6 (-4) p5)), (ra 7, aI E 6 (bf 6 0 p6)), (ra 8, aI E 6 (bf 6 0 p7)), (ra 9, aI E 6 (bf 6 0 p8)), (ra 10, aI E 6 (bf 6 0 p9)), (ra 11, aI E 6 (bf 6 (-1) p10)), (ra 12, aI E 6 (bf 6 0 p11)), (ra 23, aI E 8 (bf 8 0 ld))]) ?_ (by rw [show q = 8 by omega]) rfl rfl
              refine g_aload_n 0 dX7_begins_125 rfl rfl ?_
              refine g_iconst dX7_begins_126 ?_
              refine g_put (C := RX7) (T := TX7) (N := 43) (ws1 := [(m0, oo 7 (fMo ra n 0 ti so ta go sl lo cn lx ly pm pi)), (ra 1, aI E 6 (bf 6 1 p0)), (ra 2, aI E 6 (bf 6 0 p1)), (ra 3, aI E 6 (bf 6 0 p2)), (ra 4, aI E 6 (bf 6 2 p3)), (ra 5, aI E 6 (bf 6 0 p4)), (ra 6, aI E 6 (bf 6 (-4) p5)), (ra 7, aI E 6 (bf 6 0 p6)), (ra 8, aI E 6 (bf 6 0 p7)), (ra 9, aI E 6 (bf 6 0 p8)), (ra 10, aI E 6 (bf 6 0 p9)), (ra 11, aI E 6 (bf 6 (-1) p10)), (ra 12, aI E 6 (bf 6 0 p11)), (ra 23, aI E 8 (bf 8 0 ld))]) 0 14 (fun _ h => List.mem_cons_of_mem _ (List.mem_append_right _ h)) tyX7 tyX7_ok nmX7 (List.mem_of_getElem? (i := 15) rfl) rfl rfl (by decide) rfl (tyX7_ok 14 (by decide)) rfl rfl (by first | decide | exact Nat.le_of_ble_eq_true rfl) dX7_begins_127 rfl rfl ?_
              refine g_aload_n 0 dX7_begins_130 rfl rfl ?_
              refine g_iconst dX7_begins_131 ?_
              refine g_put (C := RX7) (T := TX7) (N := 43) (ws1 := [(m0, oo 7 (fMo ra n 0 0 so ta go sl lo cn lx ly pm pi)), (ra 1, aI E 6 (bf 6 1 p0)), (ra 2, aI E 6 (bf 6 0 p1)), (ra 3, aI E 6 (bf 6 0 p2)), (ra 4, aI E 6 (bf 6 2 p3)), (ra 5, aI E 6 (bf 6 0 p4)), (ra 6, aI E 6 (bf 6 (-4) p5)), (ra 7, aI E 6 (bf 6 0 p6)), (ra 8, aI E 6 (bf 6 0 p7)), (ra 9, aI E 6 (bf 6 0 p8)), (ra 10, aI E 6 (bf 6 0 p9)), (ra 11, aI E 6 (bf 6 (-1) p10)), (ra 12, aI E 6 (bf 6 0 p11)), (ra 23, aI E 8 (bf 8 0 ld))]) 0 18 (fun _ h => List.mem_cons_of_mem _ (List.mem_append_right _ h)) tyX7 tyX7_ok nmX7 (List.mem_of_getElem? (i := 16) rfl) rfl rfl (by decide) rfl (tyX7_ok 18 (by decide)) rfl rfl (by first | decide | exact Nat.le_of_ble_eq_true rfl) dX7_begins_132 rfl rfl ?_
              refine g_aload_n 0 dX7_begins_135 rfl rfl ?_
              refine g_iconst dX7_begins_136 ?_
              refine g_put (C := RX7) (T := TX7) (N := 43) (ws1 := [(m0, oo 7 (fMo ra n 0 0 0 ta go sl lo cn lx ly pm pi)), (ra 1, aI E 6 (bf 6 1 p0)), (ra 2, aI E 6 (bf 6 0 p1)), (ra 3, aI E 6 (bf 6 0 p2)), (ra 4, aI E 6 (bf 6 2 p3)), (ra 5, aI E 6 (bf 6 0 p4)), (ra 6, aI E 6 (bf 6 (-4) p5)), (ra 7, aI E 6 (bf 6 0 p6)), (ra 8, aI E 6 (bf 6 0 p7)), (ra 9, aI E 6 (bf 6 0 p8)), (ra 10, aI E 6 (bf 6 0 p9)), (ra 11, aI E 6 (bf 6 (-1) p10)), (ra 12, aI E 6 (bf 6 0 p11)), (ra 23, aI E 8 (bf 8 0 ld))]) 0 19 (fun _ h => List.mem_cons_of_mem _ (List.mem_append_right _ h)) tyX7 tyX7_ok nmX7 (List.mem_of_getElem? (i := 17) rfl) rfl rfl (by decide) rfl (tyX7_ok 19 (by decide)) rfl rfl (by first | decide | exact Nat.le_of_ble_eq_true rfl) dX7_begins_137 rfl rfl ?_
              refine g_aload_n 0 dX7_begins_140 rfl rfl ?_
              refine g_iconst dX7_begins_141 ?_
              refine g_put (C := RX7) (T := TX7) (N := 43) (ws1 := [(m0, oo 7 (fMo ra n 0 0 0 0 go sl lo cn lx ly pm pi)), (ra 1, aI E 6 (bf 6 1 p0)), (ra 2, aI E 6 (bf 6 0 p1)), (ra 3, aI E 6 (bf 6 0 p2)), (ra 4, aI E 6 (bf 6 2 p3)), (ra 5, aI E 6 (bf 6 0 p4)), (ra 6, aI E 6 (bf 6 (-4) p5)), (ra 7, aI E 6 (bf 6 0 p6)), (ra 8, aI E 6 (bf 6 0 p7)), (ra 9, aI E 6 (bf 6 0 p8)), (ra 10, aI E 6 (bf 6 0 p9)), (ra 11, aI E 6 (bf 6 (-1) p10)), (ra 12, aI E 6 (bf 6 0 p11)), (ra 23, aI E 8 (bf 8 0 ld))]) 0 20 (fun _ h => List.mem_cons_of_mem _ (List.mem_append_right _ h)) tyX7 tyX7_ok nmX7 (List.mem_of_getElem? (i := 18) rfl) rfl rfl (by decide) rfl (tyX7_ok 20 (by decide)) rfl rfl (by first | decide | exact Nat.le_of_ble_eq_true rfl) dX7_begins_142 rfl rfl ?_
              refine g_aload_n 0 dX7_begins_145 rfl rfl ?_
              refine g_iconst dX7_begins_146 ?_
              refine g_put (C := RX7) (T := TX7) (N := 43) (ws1 := [(m0, oo 7 (fMo ra n 0 0 0 0 0 sl lo cn lx ly pm pi)), (ra 1, aI E 6 (bf 6 1 p0)), (ra 2, aI E 6 (bf 6 0 p1)), (ra 3, aI E 6 (bf 6 0 p2)), (ra 4, aI E 6 (bf 6 2 p3)), (ra 5, aI E 6 (bf 6 0 p4)), (ra 6, aI E 6 (bf 6 (-4) p5)), (ra 7, aI E 6 (bf 6 0 p6)), (ra 8, aI E 6 (bf 6 0 p7)), (ra 9, aI E 6 (bf 6 0 p8)), (ra 10, aI E 6 (bf 6 0 p9)), (ra 11, aI E 6 (bf 6 (-1) p10)), (ra 12, aI E 6 (bf 6 0 p11)), (ra 23, aI E 8 (bf 8 0 ld))]) 0 21 (fun _ h => List.mem_cons_of_mem _ (List.mem_append_right _ h)) tyX7 tyX7_ok nmX7 (List.mem_of_getElem? (i := 19) rfl) rfl rfl (by decide) rfl (tyX7_ok 21 (by decide)) rfl rfl (by first | decide | exact Nat.le_of_ble_eq_true rfl) dX7_begins_147 rfl rfl ?_
              refine g_aload_n 0 dX7_begins_150 rfl rfl ?_
              refine g_iconst dX7_begins_151 ?_
              refine g_put (C := RX7) (T := TX7) (N := 43) (ws1 := [(m0, oo 7 (fMo ra n 0 0 0 0 0 0 lo cn lx ly pm pi)), (ra 1, aI E 6 (bf 6 1 p0)), (ra 2, aI E 6 (bf 6 0 p1)), (ra 3, aI E 6 (bf 6 0 p2)), (ra 4, aI E 6 (bf 6 2 p3)), (ra 5, aI E 6 (bf 6 0 p4)), (ra 6, aI E 6 (bf 6 (-4) p5)), (ra 7, aI E 6 (bf 6 0 p6)), (ra 8, aI E 6 (bf 6 0 p7)), (ra 9, aI E 6 (bf 6 0 p8)), (ra 10, aI E 6 (bf 6 0 p9)), (ra 11, aI E 6 (bf 6 (-1) p10)), (ra 12, aI E 6 (bf 6 0 p11)), (ra 23, aI E 8 (bf 8 0 ld))]) 0 22 (fun _ h => List.mem_cons_of_mem _ (List.mem_append_right _ h)) tyX7 tyX7_ok nmX7 (List.mem_of_getElem? (i := 20) rfl) rfl rfl (by decide) rfl (tyX7_ok 22 (by decide)) rfl rfl (by first | decide | exact Nat.le_of_ble_eq_true rfl) dX7_begins_152 rfl rfl ?_
              exact g_vret hRet dX7_begins_155 rfl
            · refine g_aload_n 0 dX7_begins_112 rfl rfl ?_
              refine g_get (C := RX7) (T := TX7) (N := 43) 0 23 (fun _ h => List.mem_cons_of_mem _ (List.mem_append_right _ h)) (List.mem_of_getElem? (i := 14) rfl) rfl rfl (by decide) rfl rfl dX7_begins_113 ?_
              refine g_iload_n 2 dX7_begins_116 rfl rfl ?_
              refine g_iconst dX7_begins_117 ?_
              refine g_iast (ws1 := [(m0, oo 7 (fMo ra n nf ti so ta go sl lo cn lx ly pm pi)), (ra 1, aI E 6 (bf 6 1 p0)), (ra 2, aI E 6 (bf 6 0 p1)), (ra 3, aI E 6 (bf 6 0 p2)), (ra 4, aI E 6 (bf 6 2 p3)), (ra 5, aI E 6 (bf 6 0 p4)), (ra 6, aI E 6 (bf 6 (-4) p5)), (ra 7, aI E 6 (bf 6 0 p6)), (ra 8, aI E 6 (bf 6 0 p7)), (ra 9, aI E 6 (bf 6 0 p8)), (ra 10, aI E 6 (bf 6 0 p9)), (ra 11, aI E 6 (bf 6 (-1) p10)), (ra 12, aI E 6 (bf 6 0 p11)), (ra 23, aI E 8 (up (bf q 0 ld) q 0))]) 13 dX7_begins_118 rfl rfl (by decide) (by omega) (by omega) ?_
              refine g_as (ws1 := [(m0, oo 7 (fMo ra n nf ti so ta go sl lo cn lx ly pm pi)), (ra 1, aI E 6 (bf 6 1 p0)), (ra 2, aI E 6 (bf 6 0 p1)), (ra 3, aI E 6 (bf 6 0 p2)), (ra 4, aI E 6 (bf 6 2 p3)), (ra 5, aI E 6 (bf 6 0 p4)), (ra 6, aI E 6 (bf 6 (-4) p5)), (ra 7, aI E 6 (bf 6 0 p6)), (ra 8, aI E 6 (bf 6 0 p7)), (ra 9, aI E 6 (bf 6 0 p8)), (ra 10, aI E 6 (bf 6 0 p9)), (ra 11, aI E 6 (bf 6 (-1) p10)), (ra 12, aI E 6 (bf 6 0 p11)), (ra 23, aI E 8 (bf (q + 1) 0 ld))]) ?_ (by rw [bf_s hq.1]) rfl rfl
              refine g_iinc (lv1 := [(2, .int (iI (q + 1))), (0, .ref m0), (1, .int (iI n))]) 2 dX7_begins_119 rfl (by decide) rfl ?_
              refine g_goto (tgt := 106) dX7_begins_122 rfl ?_
              refine g_lv (lv1 := [(0, .ref m0), (1, .int (iI n)), (2, .int (iI (q + 1)))]) [1, 2, 0] rfl ?_
              exact ih106 (q + 1) (by omega) (by omega)
        exact L106 _ 0 (by omega) (lt_nn _)
      · refine g_aload_n 0 dX7_begins_13 rfl rfl ?_
        refine g_get (C := RX7) (T := TX7) (N := 43) 0 1 (fun _ h => List.mem_cons_of_mem _ (List.mem_append_right _ h)) (List.mem_of_getElem? (i := 2) rfl) rfl rfl (by decide) rfl rfl dX7_begins_14 ?_
        refine g_iload_n 2 dX7_begins_17 rfl rfl ?_
        refine g_iconst dX7_begins_18 ?_
        refine g_iast (ws1 := [(m0, oo 7 (fMo ra n nf ti so ta go sl lo cn lx ly pm pi)), (ra 1, aI E 6 (up (bf k 1 p0) k 1)), (ra 2, aI E 6 (bf k 0 p1)), (ra 3, aI E 6 (bf k 0 p2)), (ra 4, aI E 6 (bf k 2 p3)), (ra 5, aI E 6 (bf k 0 p4)), (ra 6, aI E 6 (bf k (-4) p5)), (ra 7, aI E 6 (bf k 0 p6)), (ra 8, aI E 6 (bf k 0 p7)), (ra 9, aI E 6 (bf k 0 p8)), (ra 10, aI E 6 (bf k 0 p9)), (ra 11, aI E 6 (bf k (-1) p10)), (ra 12, aI E 6 (bf k 0 p11)), (ra 23, aI E 8 ld)]) 1 dX7_begins_19 rfl rfl (by decide) (by omega) (by omega) ?_
        refine g_aload_n 0 dX7_begins_20 rfl rfl ?_
        refine g_get (C := RX7) (T := TX7) (N := 43) 0 2 (fun _ h => List.mem_cons_of_mem _ (List.mem_append_right _ h)) (List.mem_of_getElem? (i := 3) rfl) rfl rfl (by decide) rfl rfl dX7_begins_21 ?_
        refine g_iload_n 2 dX7_begins_24 rfl rfl ?_
        refine g_iconst dX7_begins_25 ?_
        refine g_iast (ws1 := [(m0, oo 7 (fMo ra n nf ti so ta go sl lo cn lx ly pm pi)), (ra 1, aI E 6 (up (bf k 1 p0) k 1)), (ra 2, aI E 6 (up (bf k 0 p1) k 0)), (ra 3, aI E 6 (bf k 0 p2)), (ra 4, aI E 6 (bf k 2 p3)), (ra 5, aI E 6 (bf k 0 p4)), (ra 6, aI E 6 (bf k (-4) p5)), (ra 7, aI E 6 (bf k 0 p6)), (ra 8, aI E 6 (bf k 0 p7)), (ra 9, aI E 6 (bf k 0 p8)), (ra 10, aI E 6 (bf k 0 p9)), (ra 11, aI E 6 (bf k (-1) p10)), (ra 12, aI E 6 (bf k 0 p11)), (ra 23, aI E 8 ld)]) 2 dX7_begins_26 rfl rfl (by decide) (by omega) (by omega) ?_
        refine g_aload_n 0 dX7_begins_27 rfl rfl ?_
        refine g_get (C := RX7) (T := TX7) (N := 43) 0 3 (fun _ h => List.mem_cons_of_mem _ (List.mem_append_right _ h)) (List.mem_of_getElem? (i := 4) rfl) rfl rfl (by decide) rfl rfl dX7_begins_28 ?_
        refine g_iload_n 2 dX7_begins_31 rfl rfl ?_
        refine g_iconst dX7_begins_32 ?_
        refine g_iast (ws1 := [(m0, oo 7 (fMo ra n nf ti so ta go sl lo cn lx ly pm pi)), (ra 1, aI E 6 (up (bf k 1 p0) k 1)), (ra 2, aI E 6 (up (bf k 0 p1) k 0)), (ra 3, aI E 6 (up (bf k 0 p2) k 0)), (ra 4, aI E 6 (bf k 2 p3)), (ra 5, aI E 6 (bf k 0 p4)), (ra 6, aI E 6 (bf k (-4) p5)), (ra 7, aI E 6 (bf k 0 p6)), (ra 8, aI E 6 (bf k 0 p7)), (ra 9, aI E 6 (bf k 0 p8)), (ra 10, aI E 6 (bf k 0 p9)), (ra 11, aI E 6 (bf k (-1) p10)), (ra 12, aI E 6 (bf k 0 p11)), (ra 23, aI E 8 ld)]) 3 dX7_begins_33 rfl rfl (by decide) (by omega) (by omega) ?_
        refine g_aload_n 0 dX7_begins_34 rfl rfl ?_
        refine g_get (C := RX7) (T := TX7) (N := 43) 0 4 (fun _ h => List.mem_cons_of_mem _ (List.mem_append_right _ h)) (List.mem_of_getElem? (i := 5) rfl) rfl rfl (by decide) rfl rfl dX7_begins_35 ?_
        refine g_iload_n 2 dX7_begins_38 rfl rfl ?_
        refine g_iconst dX7_begins_39 ?_
        refine g_iast (ws1 := [(m0, oo 7 (fMo ra n nf ti so ta go sl lo cn lx ly pm pi)), (ra 1, aI E 6 (up (bf k 1 p0) k 1)), (ra 2, aI E 6 (up (bf k 0 p1) k 0)), (ra 3, aI E 6 (up (bf k 0 p2) k 0)), (ra 4, aI E 6 (up (bf k 2 p3) k 2)), (ra 5, aI E 6 (bf k 0 p4)), (ra 6, aI E 6 (bf k (-4) p5)), (ra 7, aI E 6 (bf k 0 p6)), (ra 8, aI E 6 (bf k 0 p7)), (ra 9, aI E 6 (bf k 0 p8)), (ra 10, aI E 6 (bf k 0 p9)), (ra 11, aI E 6 (bf k (-1) p10)), (ra 12, aI E 6 (bf k 0 p11)), (ra 23, aI E 8 ld)]) 4 dX7_begins_40 rfl rfl (by decide) (by omega) (by omega) ?_
        refine g_aload_n 0 dX7_begins_41 rfl rfl ?_
        refine g_get (C := RX7) (T := TX7) (N := 43) 0 5 (fun _ h => List.mem_cons_of_mem _ (List.mem_append_right _ h)) (List.mem_of_getElem? (i := 6) rfl) rfl rfl (by decide) rfl rfl dX7_begins_42 ?_
        refine g_iload_n 2 dX7_begins_45 rfl rfl ?_
        refine g_iconst dX7_begins_46 ?_
        refine g_iast (ws1 := [(m0, oo 7 (fMo ra n nf ti so ta go sl lo cn lx ly pm pi)), (ra 1, aI E 6 (up (bf k 1 p0) k 1)), (ra 2, aI E 6 (up (bf k 0 p1) k 0)), (ra 3, aI E 6 (up (bf k 0 p2) k 0)), (ra 4, aI E 6 (up (bf k 2 p3) k 2)), (ra 5, aI E 6 (up (bf k 0 p4) k 0)), (ra 6, aI E 6 (bf k (-4) p5)), (ra 7, aI E 6 (bf k 0 p6)), (ra 8, aI E 6 (bf k 0 p7)), (ra 9, aI E 6 (bf k 0 p8)), (ra 10, aI E 6 (bf k 0 p9)), (ra 11, aI E 6 (bf k (-1) p10)), (ra 12, aI E 6 (bf k 0 p11)), (ra 23, aI E 8 ld)]) 5 dX7_begins_47 rfl rfl (by decide) (by omega) (by omega) ?_
        refine g_aload_n 0 dX7_begins_48 rfl rfl ?_
        refine g_get (C := RX7) (T := TX7) (N := 43) 0 6 (fun _ h => List.mem_cons_of_mem _ (List.mem_append_right _ h)) (List.mem_of_getElem? (i := 7) rfl) rfl rfl (by decide) rfl rfl dX7_begins_49 ?_
        refine g_iload_n 2 dX7_begins_52 rfl rfl ?_
        refine g_bipush dX7_begins_53 rfl ?_
        refine g_iast (ws1 := [(m0, oo 7 (fMo ra n nf ti so ta go sl lo cn lx ly pm pi)), (ra 1, aI E 6 (up (bf k 1 p0) k 1)), (ra 2, aI E 6 (up (bf k 0 p1) k 0)), (ra 3, aI E 6 (up (bf k 0 p2) k 0)), (ra 4, aI E 6 (up (bf k 2 p3) k 2)), (ra 5, aI E 6 (up (bf k 0 p4) k 0)), (ra 6, aI E 6 (up (bf k (-4) p5) k (-4))), (ra 7, aI E 6 (bf k 0 p6)), (ra 8, aI E 6 (bf k 0 p7)), (ra 9, aI E 6 (bf k 0 p8)), (ra 10, aI E 6 (bf k 0 p9)), (ra 11, aI E 6 (bf k (-1) p10)), (ra 12, aI E 6 (bf k 0 p11)), (ra 23, aI E 8 ld)]) 6 dX7_begins_55 rfl rfl (by decide) (by omega) (by omega) ?_
        refine g_aload_n 0 dX7_begins_56 rfl rfl ?_
        refine g_get (C := RX7) (T := TX7) (N := 43) 0 7 (fun _ h => List.mem_cons_of_mem _ (List.mem_append_right _ h)) (List.mem_of_getElem? (i := 8) rfl) rfl rfl (by decide) rfl rfl dX7_begins_57 ?_
        refine g_iload_n 2 dX7_begins_60 rfl rfl ?_
        refine g_iconst dX7_begins_61 ?_
        refine g_iast (ws1 := [(m0, oo 7 (fMo ra n nf ti so ta go sl lo cn lx ly pm pi)), (ra 1, aI E 6 (up (bf k 1 p0) k 1)), (ra 2, aI E 6 (up (bf k 0 p1) k 0)), (ra 3, aI E 6 (up (bf k 0 p2) k 0)), (ra 4, aI E 6 (up (bf k 2 p3) k 2)), (ra 5, aI E 6 (up (bf k 0 p4) k 0)), (ra 6, aI E 6 (up (bf k (-4) p5) k (-4))), (ra 7, aI E 6 (up (bf k 0 p6) k 0)), (ra 8, aI E 6 (bf k 0 p7)), (ra 9, aI E 6 (bf k 0 p8)), (ra 10, aI E 6 (bf k 0 p9)), (ra 11, aI E 6 (bf k (-1) p10)), (ra 12, aI E 6 (bf k 0 p11)), (ra 23, aI E 8 ld)]) 7 dX7_begins_62 rfl rfl (by decide) (by omega) (by omega) ?_
        refine g_aload_n 0 dX7_begins_63 rfl rfl ?_
        refine g_get (C := RX7) (T := TX7) (N := 43) 0 8 (fun _ h => List.mem_cons_of_mem _ (List.mem_append_right _ h)) (List.mem_of_getElem? (i := 9) rfl) rfl rfl (by decide) rfl rfl dX7_begins_64 ?_
        refine g_iload_n 2 dX7_begins_67 rfl rfl ?_
        refine g_iconst dX7_begins_68 ?_
        refine g_iast (ws1 := [(m0, oo 7 (fMo ra n nf ti so ta go sl lo cn lx ly pm pi)), (ra 1, aI E 6 (up (bf k 1 p0) k 1)), (ra 2, aI E 6 (up (bf k 0 p1) k 0)), (ra 3, aI E 6 (up (bf k 0 p2) k 0)), (ra 4, aI E 6 (up (bf k 2 p3) k 2)), (ra 5, aI E 6 (up (bf k 0 p4) k 0)), (ra 6, aI E 6 (up (bf k (-4) p5) k (-4))), (ra 7, aI E 6 (up (bf k 0 p6) k 0)), (ra 8, aI E 6 (up (bf k 0 p7) k 0)), (ra 9, aI E 6 (bf k 0 p8)), (ra 10, aI E 6 (bf k 0 p9)), (ra 11, aI E 6 (bf k (-1) p10)), (ra 12, aI E 6 (bf k 0 p11)), (ra 23, aI E 8 ld)]) 8 dX7_begins_69 rfl rfl (by decide) (by omega) (by omega) ?_
        refine g_aload_n 0 dX7_begins_70 rfl rfl ?_
        refine g_get (C := RX7) (T := TX7) (N := 43) 0 9 (fun _ h => List.mem_cons_of_mem _ (List.mem_append_right _ h)) (List.mem_of_getElem? (i := 10) rfl) rfl rfl (by decide) rfl rfl dX7_begins_71 ?_
        refine g_iload_n 2 dX7_begins_74 rfl rfl ?_
        refine g_iconst dX7_begins_75 ?_
        refine g_iast (ws1 := [(m0, oo 7 (fMo ra n nf ti so ta go sl lo cn lx ly pm pi)), (ra 1, aI E 6 (up (bf k 1 p0) k 1)), (ra 2, aI E 6 (up (bf k 0 p1) k 0)), (ra 3, aI E 6 (up (bf k 0 p2) k 0)), (ra 4, aI E 6 (up (bf k 2 p3) k 2)), (ra 5, aI E 6 (up (bf k 0 p4) k 0)), (ra 6, aI E 6 (up (bf k (-4) p5) k (-4))), (ra 7, aI E 6 (up (bf k 0 p6) k 0)), (ra 8, aI E 6 (up (bf k 0 p7) k 0)), (ra 9, aI E 6 (up (bf k 0 p8) k 0)), (ra 10, aI E 6 (bf k 0 p9)), (ra 11, aI E 6 (bf k (-1) p10)), (ra 12, aI E 6 (bf k 0 p11)), (ra 23, aI E 8 ld)]) 9 dX7_begins_76 rfl rfl (by decide) (by omega) (by omega) ?_
        refine g_aload_n 0 dX7_begins_77 rfl rfl ?_
        refine g_get (C := RX7) (T := TX7) (N := 43) 0 10 (fun _ h => List.mem_cons_of_mem _ (List.mem_append_right _ h)) (List.mem_of_getElem? (i := 11) rfl) rfl rfl (by decide) rfl rfl dX7_begins_78 ?_
        refine g_iload_n 2 dX7_begins_81 rfl rfl ?_
        refine g_iconst dX7_begins_82 ?_
        refine g_iast (ws1 := [(m0, oo 7 (fMo ra n nf ti so ta go sl lo cn lx ly pm pi)), (ra 1, aI E 6 (up (bf k 1 p0) k 1)), (ra 2, aI E 6 (up (bf k 0 p1) k 0)), (ra 3, aI E 6 (up (bf k 0 p2) k 0)), (ra 4, aI E 6 (up (bf k 2 p3) k 2)), (ra 5, aI E 6 (up (bf k 0 p4) k 0)), (ra 6, aI E 6 (up (bf k (-4) p5) k (-4))), (ra 7, aI E 6 (up (bf k 0 p6) k 0)), (ra 8, aI E 6 (up (bf k 0 p7) k 0)), (ra 9, aI E 6 (up (bf k 0 p8) k 0)), (ra 10, aI E 6 (up (bf k 0 p9) k 0)), (ra 11, aI E 6 (bf k (-1) p10)), (ra 12, aI E 6 (bf k 0 p11)), (ra 23, aI E 8 ld)]) 10 dX7_begins_83 rfl rfl (by decide) (by omega) (by omega) ?_
        refine g_aload_n 0 dX7_begins_84 rfl rfl ?_
        refine g_get (C := RX7) (T := TX7) (N := 43) 0 11 (fun _ h => List.mem_cons_of_mem _ (List.mem_append_right _ h)) (List.mem_of_getElem? (i := 12) rfl) rfl rfl (by decide) rfl rfl dX7_begins_85 ?_
        refine g_iload_n 2 dX7_begins_88 rfl rfl ?_
        refine g_iconst dX7_begins_89 ?_
        refine g_iast (ws1 := [(m0, oo 7 (fMo ra n nf ti so ta go sl lo cn lx ly pm pi)), (ra 1, aI E 6 (up (bf k 1 p0) k 1)), (ra 2, aI E 6 (up (bf k 0 p1) k 0)), (ra 3, aI E 6 (up (bf k 0 p2) k 0)), (ra 4, aI E 6 (up (bf k 2 p3) k 2)), (ra 5, aI E 6 (up (bf k 0 p4) k 0)), (ra 6, aI E 6 (up (bf k (-4) p5) k (-4))), (ra 7, aI E 6 (up (bf k 0 p6) k 0)), (ra 8, aI E 6 (up (bf k 0 p7) k 0)), (ra 9, aI E 6 (up (bf k 0 p8) k 0)), (ra 10, aI E 6 (up (bf k 0 p9) k 0)), (ra 11, aI E 6 (up (bf k (-1) p10) k (-1))), (ra 12, aI E 6 (bf k 0 p11)), (ra 23, aI E 8 ld)]) 11 dX7_begins_90 rfl rfl (by decide) (by omega) (by omega) ?_
        refine g_aload_n 0 dX7_begins_91 rfl rfl ?_
        refine g_get (C := RX7) (T := TX7) (N := 43) 0 12 (fun _ h => List.mem_cons_of_mem _ (List.mem_append_right _ h)) (List.mem_of_getElem? (i := 13) rfl) rfl rfl (by decide) rfl rfl dX7_begins_92 ?_
        refine g_iload_n 2 dX7_begins_95 rfl rfl ?_
        refine g_iconst dX7_begins_96 ?_
        refine g_iast (ws1 := [(m0, oo 7 (fMo ra n nf ti so ta go sl lo cn lx ly pm pi)), (ra 1, aI E 6 (up (bf k 1 p0) k 1)), (ra 2, aI E 6 (up (bf k 0 p1) k 0)), (ra 3, aI E 6 (up (bf k 0 p2) k 0)), (ra 4, aI E 6 (up (bf k 2 p3) k 2)), (ra 5, aI E 6 (up (bf k 0 p4) k 0)), (ra 6, aI E 6 (up (bf k (-4) p5) k (-4))), (ra 7, aI E 6 (up (bf k 0 p6) k 0)), (ra 8, aI E 6 (up (bf k 0 p7) k 0)), (ra 9, aI E 6 (up (bf k 0 p8) k 0)), (ra 10, aI E 6 (up (bf k 0 p9) k 0)), (ra 11, aI E 6 (up (bf k (-1) p10) k (-1))), (ra 12, aI E 6 (up (bf k 0 p11) k 0)), (ra 23, aI E 8 ld)]) 12 dX7_begins_97 rfl rfl (by decide) (by omega) (by omega) ?_
        refine g_as (ws1 := [(m0, oo 7 (fMo ra n nf ti so ta go sl lo cn lx ly pm pi)), (ra 1, aI E 6 (bf (k + 1) 1 p0)), (ra 2, aI E 6 (bf (k + 1) 0 p1)), (ra 3, aI E 6 (bf (k + 1) 0 p2)), (ra 4, aI E 6 (bf (k + 1) 2 p3)), (ra 5, aI E 6 (bf (k + 1) 0 p4)), (ra 6, aI E 6 (bf (k + 1) (-4) p5)), (ra 7, aI E 6 (bf (k + 1) 0 p6)), (ra 8, aI E 6 (bf (k + 1) 0 p7)), (ra 9, aI E 6 (bf (k + 1) 0 p8)), (ra 10, aI E 6 (bf (k + 1) 0 p9)), (ra 11, aI E 6 (bf (k + 1) (-1) p10)), (ra 12, aI E 6 (bf (k + 1) 0 p11)), (ra 23, aI E 8 ld)]) ?_ (by simp only [bf_s hk.1]) rfl rfl
        refine g_iinc (lv1 := [(2, .int (iI (k + 1))), (0, .ref m0), (1, .int (iI n))]) 2 dX7_begins_98 rfl (by decide) rfl ?_
        refine g_goto (tgt := 7) dX7_begins_101 rfl ?_
        refine g_lv (lv1 := [(0, .ref m0), (1, .int (iI n)), (2, .int (iI (k + 1)))]) [1, 2, 0] rfl ?_
        exact ih7 (k + 1) (by omega) (by omega)
  exact L7 _ 0 (by omega) (lt_nn _)

set_option maxHeartbeats 4000000 in
set_option maxRecDepth 100000 in
theorem c_X7_line (E : Ev) (m0 : Nat) (ra : Nat → Nat) (mm : Int) (nf : Int) (ti : Int) (so : Int) (ta : Int) (go : Int) (sl : Int) (lo : Int) (cn : Int) (lx : Int) (ly : Int) (pm : Int) (pi : Int) (g : Int → Int → Int) (S : Int → Int → Int) (ld : Int → Int) (n : Int) (h_n : -2147483648 ≤ n ∧ n ≤ 2147483647) : MI yX7_line wsX7_line ({ frames := 1, cells := 0, slots := 0, locals := 22 } : Room) E [] 0 0 [.ref m0, .int (iI n)] [(m0, oo 7 (fMo ra mm nf ti so ta go sl lo cn lx ly pm pi)), (ra 1, aI E 6 (fun j => S j 0)), (ra 2, aI E 6 (fun j => S j 1)), (ra 3, aI E 6 (fun j => S j 2)), (ra 4, aI E 6 (fun j => S j 3)), (ra 5, aI E 6 (fun j => g j 0)), (ra 6, aI E 6 (fun j => g j 9)), (ra 7, aI E 6 (fun j => g j 4)), (ra 8, aI E 6 (fun j => g j 5)), (ra 9, aI E 6 (fun j => g j 6)), (ra 10, aI E 6 (fun j => g j 10)), (ra 11, aI E 6 (fun j => wkOf (g j))), (ra 12, aI E 6 (fun j => g j 7)), (ra 13, aI E 6 (fun j => g j 8)), (ra 23, aI E 8 ld)] (fun r u => ∃ (x : Int), ∃ (mm' : Int), ∃ (ti' : Int), ∃ (so' : Int), ∃ (ta' : Int), ∃ (go' : Int), ∃ (sl' : Int), ∃ (nf' : Int), ∃ (g' : Int → Int → Int), ∃ (S' : Int → Int → Int), ∃ (ld' : Int → Int), sp_line gLr mm ti so ta go sl nf g S ld n x mm' ti' so' ta' go' sl' nf' g' S' ld' ∧ r = iI x ∧ u = [(m0, oo 7 (fMo ra mm' nf' ti' so' ta' go' sl' lo cn lx ly pm pi)), (ra 1, aI E 6 (fun j => S' j 0)), (ra 2, aI E 6 (fun j => S' j 1)), (ra 3, aI E 6 (fun j => S' j 2)), (ra 4, aI E 6 (fun j => S' j 3)), (ra 5, aI E 6 (fun j => g' j 0)), (ra 6, aI E 6 (fun j => g' j 9)), (ra 7, aI E 6 (fun j => g' j 4)), (ra 8, aI E 6 (fun j => g' j 5)), (ra 9, aI E 6 (fun j => g' j 6)), (ra 10, aI E 6 (fun j => g' j 10)), (ra 11, aI E 6 (fun j => wkOf (g' j))), (ra 12, aI E 6 (fun j => g' j 7)), (ra 13, aI E 6 (fun j => g' j 8)), (ra 23, aI E 8 ld')]) := by
  refine MI.of (cc := cX7_line) (maxL := 2) (own := RX7) (by decide) rfl rfl rfl (Nat.le_of_ble_eq_true rfl) [(0, .ref m0), (1, .int (iI n))] rfl ?_
  intro X hin2 hRet
  refine g_iload_n 1 dX7_line_0 rfl rfl ?_
  refine g_iconst dX7_line_1 ?_
  refine g_bipush dX7_line_2 rfl ?_
  refine g_callS_i (n := 3) (As := [.int (iI n), .int (iI 2), .int (iI 6)]) (wr := [(m0, oo 7 (fMo ra mm nf ti so ta go sl lo cn lx ly pm pi)), (ra 1, aI E 6 (fun j => S j 0)), (ra 2, aI E 6 (fun j => S j 1)), (ra 3, aI E 6 (fun j => S j 2)), (ra 4, aI E 6 (fun j => S j 3)), (ra 5, aI E 6 (fun j => g j 0)), (ra 6, aI E 6 (fun j => g j 9)), (ra 7, aI E 6 (fun j => g j 4)), (ra 8, aI E 6 (fun j => g j 5)), (ra 9, aI E 6 (fun j => g j 6)), (ra 10, aI E 6 (fun j => g j 10)), (ra 11, aI E 6 (fun j => wkOf (g j))), (ra 12, aI E 6 (fun j => g j 7)), (ra 13, aI E 6 (fun j => g j 8)), (ra 23, aI E 8 ld)]) [] (c_X7_in E n 2 6 (by omega) (by omega) (by omega)) [] [0, 1, 2, 3, 4, 5, 6, 7, 8, 9, 10, 11, 12, 13, 14] gX7_line_X7_in rfl ⟨rfl, by decide +kernel⟩ ⟨by decide, by decide⟩ rfl rfl rfl rfl rfl (by decide) rfl (by decide) (by decide) (fun _ h => absurd h List.not_mem_nil) dX7_line_4 rfl (Nat.le_of_ble_eq_true rfl) ⟨by decide, by decide⟩ (fun r u p_1 => ?_)
  obtain ⟨rfl, rfl⟩ := p_1
  refine g_perm (ws1 := [(m0, oo 7 (fMo ra mm nf ti so ta go sl lo cn lx ly pm pi)), (ra 1, aI E 6 (fun j => S j 0)), (ra 2, aI E 6 (fun j => S j 1)), (ra 3, aI E 6 (fun j => S j 2)), (ra 4, aI E 6 (fun j => S j 3)), (ra 5, aI E 6 (fun j => g j 0)), (ra 6, aI E 6 (fun j => g j 9)), (ra 7, aI E 6 (fun j => g j 4)), (ra 8, aI E 6 (fun j => g j 5)), (ra 9, aI E 6 (fun j => g j 6)), (ra 10, aI E 6 (fun j => g j 10)), (ra 11, aI E 6 (fun j => wkOf (g j))), (ra 12, aI E 6 (fun j => g j 7)), (ra 13, aI E 6 (fun j => g j 8)), (ra 23, aI E 8 ld)]) [0, 1, 2, 3, 4, 5, 6, 7, 8, 9, 10, 11, 12, 13, 14] rfl (by decide) rfl ?_
  refine g_if_ne_b (tgt := 12) dX7_line_7 rfl (fun c_2 => ?_) (fun c_2 => ?_)
  · refine g_aload_n 0 dX7_line_12 rfl rfl ?_
    refine g_iload_n 1 dX7_line_13 rfl rfl ?_
    refine g_callV_v (n := 1) (As := [.int (iI n)]) (wr := [(ra 13, aI E 6 (fun j => g j 8))]) (C := RX7) [] (c_X7_begins E m0 ra mm nf ti so ta go sl lo cn lx ly pm pi (fun j => S j 0) (fun j => S j 1) (fun j => S j 2) (fun j => S j 3) (fun j => g j 0) (fun j => g j 9) (fun j => g j 4) (fun j => g j 5) (fun j => g j 6) (fun j => g j 10) (fun j => wkOf (g j)) (fun j => g j 7) ld n (by omega)) [0, 1, 2, 3, 4, 5, 6, 7, 8, 9, 10, 11, 12, 14] [13] 0 rfl rfl gX7_line_X7_begins rfl ⟨rfl, by decide +kernel⟩ ⟨by decide, by decide⟩ rfl rfl rfl rfl rfl (by decide) rfl (by decide) (by decide) (fun _ h => absurd h List.not_mem_nil) dX7_line_14 rfl (Nat.le_of_ble_eq_true rfl) ⟨by decide, by decide⟩ (fun u p_3 => ?_)
    subst p_3
    refine g_perm (ws1 := [(m0, oo 7 (fMo ra n 0 0 0 0 0 0 lo cn lx ly pm pi)), (ra 1, aI E 6 (bf 6 1 (fun j => S j 0))), (ra 2, aI E 6 (bf 6 0 (fun j => S j 1))), (ra 3, aI E 6 (bf 6 0 (fun j => S j 2))), (ra 4, aI E 6 (bf 6 2 (fun j => S j 3))), (ra 5, aI E 6 (bf 6 0 (fun j => g j 0))), (ra 6, aI E 6 (bf 6 (-4) (fun j => g j 9))), (ra 7, aI E 6 (bf 6 0 (fun j => g j 4))), (ra 8, aI E 6 (bf 6 0 (fun j => g j 5))), (ra 9, aI E 6 (bf 6 0 (fun j => g j 6))), (ra 10, aI E 6 (bf 6 0 (fun j => g j 10))), (ra 11, aI E 6 (bf 6 (-1) (fun j => wkOf (g j)))), (ra 12, aI E 6 (bf 6 0 (fun j => g j 7))), (ra 13, aI E 6 (fun j => g j 8)), (ra 23, aI E 8 (bf 8 0 ld))]) [1, 2, 3, 4, 5, 6, 7, 8, 9, 10, 11, 12, 13, 0, 14] rfl (by decide) rfl ?_
    refine g_as (ws1 := [(m0, oo 7 (fMo ra n 0 0 0 0 0 0 lo cn lx ly pm pi)), (ra 1, aI E 6 (fun j => sL S j 0)), (ra 2, aI E 6 (fun j => sL S j 1)), (ra 3, aI E 6 (fun j => sL S j 2)), (ra 4, aI E 6 (fun j => sL S j 3)), (ra 5, aI E 6 (fun j => gLr g j 0)), (ra 6, aI E 6 (fun j => gLr g j 9)), (ra 7, aI E 6 (fun j => gLr g j 4)), (ra 8, aI E 6 (fun j => gLr g j 5)), (ra 9, aI E 6 (fun j => gLr g j 6)), (ra 10, aI E 6 (fun j => gLr g j 10)), (ra 11, aI E 6 (fun j => wkOf (gLr g j))), (ra 12, aI E 6 (fun j => gLr g j 7)), (ra 13, aI E 6 (fun j => gLr g j 8)), (ra 23, aI E 8 (bf 8 0 ld))]) ?_ (by rw [col_g8, col_s S 0 1 (by omega) rfl, col_s S 1 0 (by omega) rfl, col_s S 2 0 (by omega) rfl, col_s S 3 2 (by omega) rfl, col_g g 0 0 (by omega) rfl, col_g g 9 (-4) (by omega) rfl, col_g g 4 0 (by omega) rfl, col_g g 5 0 (by omega) rfl, col_g g 6 0 (by omega) rfl, col_g g 10 0 (by omega) rfl, col_w g, col_g g 7 0 (by omega) rfl]) rfl rfl
    refine g_iload_n 1 dX7_line_17 rfl rfl ?_
    exact g_iret hRet dX7_line_18 rfl ⟨n, n, 0, 0, 0, 0, 0, 0, (gLr g), (sL S), (bf 8 0 ld), (by unfold sp_line; rw [if_neg (by omega)]; exact ⟨rfl, rfl, rfl, rfl, rfl, rfl, rfl, rfl, rfl, rfl, rfl⟩), rfl, rfl⟩
  · refine g_iconst dX7_line_10 ?_
    exact g_iret hRet dX7_line_11 rfl ⟨(-1), mm, ti, so, ta, go, sl, nf, g, S, ld, (by unfold sp_line; rw [if_pos (by omega)]; exact ⟨rfl, rfl, rfl, rfl, rfl, rfl, rfl, rfl, rfl, rfl, rfl⟩), rfl, rfl⟩

end REF3
