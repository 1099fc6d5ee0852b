section REF2
def wkOf (c : Int → Int) : Int := if c 2 ≠ 0 then 100 else if c 1 ≠ 0 then c 3 else -1
theorem up_id (f : Int → Int) (k : Int) : up f k (f k) = f := by
  funext j; unfold up
  by_cases h : j = k
  · rw [if_pos h, h]
  · rw [if_neg h]
theorem up_same {f : Int → Int} {k v : Int} (h : f k = v) : up f k v = f := by rw [← h]; exact up_id f k
theorem up_up (f : Int → Int) (k v w : Int) : up (up f k v) k w = up f k w := by
  funext j; unfold up
  by_cases h : j = k
  · rw [if_pos h, if_pos h]
  · rw [if_neg h, if_neg h, if_neg h]
theorem sEnd_f {n M ti : Int} {s d c' : Int → Int} {gd : Int} (h : sEnd n M ti s d c' gd) : c' 0 = d 0 ∧ c' 10 = d 10 := by
  unfold sEnd at h
  (repeat' split at h) <;> obtain ⟨rfl, rfl⟩ := h <;> exact ⟨rfl, rfl⟩

set_option maxHeartbeats 4000000 in
set_option maxRecDepth 100000 in
theorem c_X7_isMachine (E : Ev) (m0 : Nat) (ra : Nat → Nat) (mm : Int) (nf : Int) (ti : Int) (so : Int) (ta : Int) (go : Int) (sl : Int) (lo : Int) (cn : Int) (lx : Int) (ly : Int) (pm : Int) (pi : Int) (k : Int) (hM : 2 ≤ mm ∧ mm ≤ 6) (hti : 0 ≤ ti ∧ ti ≤ 10000) (hso : 0 ≤ so ∧ so ≤ 100000) (hgo : 0 ≤ go ∧ go ≤ 20000) (hcn : 0 ≤ cn ∧ cn ≤ 200) (hlo : 0 ≤ lo ∧ lo ≤ 15) (h_k : -2147483648 ≤ k ∧ k ≤ 2147483647) : MI yX7_isMachine wsX7_isMachine ({ frames := 1, cells := 0, slots := 0, locals := 22 } : Room) E [] 0 0 [.ref m0, .int (iI k)] [(m0, oo 7 (fMo ra mm nf ti so ta go sl lo cn lx ly pm pi))] (fun r u => (r = iI (bI (0 ≤ k ∧ k ≤ mm - 1))) ∧ u = [(m0, oo 7 (fMo ra mm nf ti so ta go sl lo cn lx ly pm pi))]) := by
  refine MI.of (cc := cX7_isMachine) (maxL := 2) (own := RX7) (by decide) rfl rfl rfl (Nat.le_of_ble_eq_true rfl) [(0, .ref m0), (1, .int (iI k))] rfl ?_
  intro X hin2 hRet
  refine g_iload_n 1 dX7_isMachine_0 rfl rfl ?_
  refine g_iconst dX7_isMachine_1 ?_
  refine g_aload_n 0 dX7_isMachine_2 rfl rfl ?_
  refine g_get (C := RX7) (T := TX7) (N := 43) 0 0 (fun _ h => List.mem_cons_of_mem _ (List.mem_append_right _ h)) (List.mem_of_getElem? (i := 1) rfl) rfl rfl (by decide) rfl rfl dX7_isMachine_3 ?_
  refine g_iconst dX7_isMachine_6 ?_
  refine g_isub dX7_isMachine_7 ?_
  refine g_callS_i (n := 3) (As := [.int (iI k), .int (iI 0), .int (iI (mm - 1))]) (wr := [(m0, oo 7 (fMo ra mm nf ti so ta go sl lo cn lx ly pm pi))]) [] (c_X7_in E k 0 (mm - 1) (by omega) (by omega) (by omega)) [] [0] gX7_isMachine_X7_in rfl ⟨rfl, by decide +kernel⟩ ⟨by decide, by decide⟩ rfl rfl rfl rfl rfl (by decide) rfl (by decide) (by decide) (fun _ h => absurd h List.not_mem_nil) dX7_isMachine_8 rfl (Nat.le_of_ble_eq_true rfl) ⟨by decide, by decide⟩ (fun r u p_1 => ?_)
  obtain ⟨rfl, rfl⟩ := p_1
  refine g_perm (ws1 := [(m0, oo 7 (fMo ra mm nf ti so ta go sl lo cn lx ly pm pi))]) [0] rfl (by decide) rfl ?_
  exact g_iret hRet dX7_isMachine_11 (nar_b _) ⟨(bI_c (by omega)), rfl⟩

set_option maxHeartbeats 4000000 in
set_option maxRecDepth 100000 in
theorem c_X7_isFaulty (E : Ev) (m0 : Nat) (ra : Nat → Nat) (mm : Int) (nf : Int) (ti : Int) (so : Int) (ta : Int) (go : Int) (sl : Int) (lo : Int) (cn : Int) (lx : Int) (ly : Int) (pm : Int) (pi : Int) (fm : Int → Int) (fa : Int → Int) (fb : Int → Int) (k : Int) (hM : 2 ≤ mm ∧ mm ≤ 6) (hti : 0 ≤ ti ∧ ti ≤ 10000) (hso : 0 ≤ so ∧ so ≤ 100000) (hgo : 0 ≤ go ∧ go ≤ 20000) (hcn : 0 ≤ cn ∧ cn ≤ 200) (hlo : 0 ≤ lo ∧ lo ≤ 15) (hnf : 0 ≤ nf ∧ nf ≤ 8) (hfm : ∀ k, 0 ≤ fm k ∧ fm k ≤ 5) (hfa : ∀ k, 0 ≤ fa k ∧ fa k ≤ 9999) (hfb : ∀ k, 0 ≤ fb k ∧ fb k ≤ 9999) (hk : 0 ≤ k ∧ k ≤ 5) : MI yX7_isFaulty wsX7_isFaulty ({ frames := 1, cells := 0, slots := 0, locals := 22 } : Room) E [] 0 0 [.ref m0, .int (iI k)] [(m0, oo 7 (fMo ra mm nf ti so ta go sl lo cn lx ly pm pi)), (ra 15, aI E 8 fm), (ra 16, aI E 8 fa), (ra 17, aI E 8 fb)] (fun r u => r = iI (bI (fl fm fa fb k ti nf = true)) ∧ u = [(m0, oo 7 (fMo ra mm nf ti so ta go sl lo cn lx ly pm pi)), (ra 15, aI E 8 fm), (ra 16, aI E 8 fa), (ra 17, aI E 8 fb)]) := by
  refine MI.of (cc := cX7_isFaulty) (maxL := 4) (own := RX7) (by decide) rfl rfl rfl (Nat.le_of_ble_eq_true rfl) [(0, .ref m0), (1, .int (iI k))] rfl ?_
  intro X hin2 hRet
  refine g_iconst dX7_isFaulty_0 ?_
  refine g_istore_n (lv1 := [(2, .int (iI 0)), (0, .ref m0), (1, .int (iI k))]) dX7_isFaulty_1 rfl (by decide) rfl ?_
  refine g_iconst dX7_isFaulty_2 ?_
  refine g_istore_n (lv1 := [(3, .int (iI 0)), (2, .int (iI 0)), (0, .ref m0), (1, .int (iI k))]) dX7_isFaulty_3 rfl (by decide) rfl ?_
  refine g_lv (lv1 := [(0, .ref m0), (1, .int (iI k)), (2, .int (iI 0)), (3, .int (iI 0))]) [2, 3, 1, 0] rfl ?_
  have L4 : ∀ (nn : Nat) (i : Int) (w : Int) (hi : 0 ≤ i ∧ i ≤ nf) (hw : (w = 1 ∧ fl fm fa fb k ti i = true) ∨ (w = 0 ∧ fl fm fa fb k ti i = false)) (hm : nf - i < (nn : Int)), G X ({ frames := 1, cells := 0, slots := 0, locals := 22 } : Room) cX7_isFaulty 4 RX7 wsX7_isFaulty E [] 0 0 [(m0, oo 7 (fMo ra mm nf ti so ta go sl lo cn lx ly pm pi)), (ra 15, aI E 8 fm), (ra 16, aI E 8 fa), (ra 17, aI E 8 fb)] [(0, .ref m0), (1, .int (iI k)), (2, .int (iI w)), (3, .int (iI i))] 4 [] := by
    intro nn
    induction nn with
    | zero => intro i w hi hw hm; exfalso; omega
    | succ nn ih4 =>
      intro i w hi hw hm
      refine g_iload_n 3 dX7_isFaulty_4 rfl rfl ?_
      refine g_aload_n 0 dX7_isFaulty_5 rfl rfl ?_
      refine g_get (C := RX7) (T := TX7) (N := 43) 0 14 (fun _ h => List.mem_cons_of_mem _ (List.mem_append_right _ h)) (List.mem_of_getElem? (i := 1) rfl) rfl rfl (by decide) rfl rfl dX7_isFaulty_6 ?_
      refine g_icmp_ge (tgt := 60) (by unfold R32; omega) (by unfold R32; omega) dX7_isFaulty_9 rfl (fun c_1 => ?_) (fun c_1 => ?_)
      · refine g_iload_n 2 dX7_isFaulty_60 rfl rfl ?_
        exact g_iret hRet dX7_isFaulty_61 (by rcases hw with ⟨e, h⟩ | ⟨e, h⟩ <;> rw [e] <;> rfl) ⟨(by rcases hw with ⟨e, h⟩ | ⟨e, h⟩; (rw [e]; exact bI_t (by rw [show nf = i by omega]; exact h)); (rw [e]; exact bI_f (by rw [show nf = i by omega, h]; exact Bool.false_ne_true))), rfl⟩
      · refine g_iload_n 2 dX7_isFaulty_12 rfl rfl ?_
        refine g_if_ne (tgt := 48) (by unfold R32; omega) dX7_isFaulty_13 rfl (fun c_2 => ?_) (fun c_2 => ?_)
        · refine g_aload_n 0 dX7_isFaulty_16 rfl rfl ?_
          refine g_get (C := RX7) (T := TX7) (N := 43) 0 15 (fun _ h => List.mem_cons_of_mem _ (List.mem_append_right _ h)) (List.mem_of_getElem? (i := 2) rfl) rfl rfl (by decide) rfl rfl dX7_isFaulty_17 ?_
          refine g_iload_n 3 dX7_isFaulty_20 rfl rfl ?_
          refine g_iald 1 dX7_isFaulty_21 rfl (by decide) (by omega) (by omega) ?_
          have q_3 := hfm i
          refine g_iload_n 1 dX7_isFaulty_22 rfl rfl ?_
          refine g_icmp_ne (tgt := 52) (by unfold R32; omega) (by unfold R32; omega) dX7_isFaulty_23 rfl (fun c_4 => ?_) (fun c_4 => ?_)
          · refine g_aload_n 0 dX7_isFaulty_26 rfl rfl ?_
            refine g_get (C := RX7) (T := TX7) (N := 43) 0 18 (fun _ h => List.mem_cons_of_mem _ (List.mem_append_right _ h)) (List.mem_of_getElem? (i := 3) rfl) rfl rfl (by decide) rfl rfl dX7_isFaulty_27 ?_
            refine g_aload_n 0 dX7_isFaulty_30 rfl rfl ?_
            refine g_get (C := RX7) (T := TX7) (N := 43) 0 16 (fun _ h => List.mem_cons_of_mem _ (List.mem_append_right _ h)) (List.mem_of_getElem? (i := 4) rfl) rfl rfl (by decide) rfl rfl dX7_isFaulty_31 ?_
            refine g_iload_n 3 dX7_isFaulty_34 rfl rfl ?_
            refine g_iald 2 dX7_isFaulty_35 rfl (by decide) (by omega) (by omega) ?_
            have q_5 := hfa i
            refine g_aload_n 0 dX7_isFaulty_36 rfl rfl ?_
            refine g_get (C := RX7) (T := TX7) (N := 43) 0 17 (fun _ h => List.mem_cons_of_mem _ (List.mem_append_right _ h)) (List.mem_of_getElem? (i := 5) rfl) rfl rfl (by decide) rfl rfl dX7_isFaulty_37 ?_
            refine g_iload_n 3 dX7_isFaulty_40 rfl rfl ?_
            refine g_iald 3 dX7_isFaulty_41 rfl (by decide) (by omega) (by omega) ?_
            have q_6 := hfb i
            refine g_callS_i (n := 3) (As := [.int (iI ti), .int (iI (fa i)), .int (iI (fb i))]) (wr := [(m0, oo 7 (fMo ra mm nf ti so ta go sl lo cn lx ly pm pi)), (ra 15, aI E 8 fm), (ra 16, aI E 8 fa), (ra 17, aI E 8 fb)]) [] (c_X7_in E ti (fa i) (fb i) (by omega) (by omega) (by omega)) [] [0, 1, 2, 3] gX7_isFaulty_X7_in rfl ⟨rfl, by decide +kernel⟩ ⟨by decide, by decide⟩ rfl rfl rfl rfl rfl (by decide) rfl (by decide) (by decide) (fun _ h => absurd h List.not_mem_nil) dX7_isFaulty_42 rfl (Nat.le_of_ble_eq_true rfl) ⟨by decide, by decide⟩ (fun r u p_7 => ?_)
            obtain ⟨rfl, rfl⟩ := p_7
            refine g_perm (ws1 := [(m0, oo 7 (fMo ra mm nf ti so ta go sl lo cn lx ly pm pi)), (ra 15, aI E 8 fm), (ra 16, aI E 8 fa), (ra 17, aI E 8 fb)]) [0, 1, 2, 3] rfl (by decide) rfl ?_
            refine g_if_eq_b (tgt := 52) dX7_isFaulty_45 rfl (fun c_8 => ?_) (fun c_8 => ?_)
            · refine g_iconst dX7_isFaulty_48 ?_
              refine g_goto (tgt := 53) dX7_isFaulty_49 rfl ?_
              refine g_istore_n (lv1 := [(2, .int (iI 1)), (0, .ref m0), (1, .int (iI k)), (3, .int (iI i))]) dX7_isFaulty_53 rfl (by decide) rfl ?_
              refine g_iinc (lv1 := [(3, .int (iI (i + 1))), (2, .int (iI 1)), (0, .ref m0), (1, .int (iI k))]) 3 dX7_isFaulty_54 rfl (by decide) rfl ?_
              refine g_goto (tgt := 4) dX7_isFaulty_57 rfl ?_
              refine g_lv (lv1 := [(0, .ref m0), (1, .int (iI k)), (2, .int (iI 1)), (3, .int (iI (i + 1)))]) [2, 3, 1, 0] rfl ?_
              exact ih4 (i + 1) 1 (by omega) (by rw [fl_s _ _ _ _ _ (by omega)]; rcases hw with ⟨e, h⟩ | ⟨e, h⟩; (rw [h]; first | (left; exact ⟨by omega, rfl⟩) | (exfalso; omega)); rw [h, Bool.false_or]; first | (left; refine ⟨by omega, ?_⟩; simp only [Bool.and_eq_true, decide_eq_true_eq]; omega) | (right; refine ⟨by omega, ?_⟩; simp only [Bool.and_eq_false_iff, decide_eq_false_iff_not]; omega)) (by omega)
            · refine g_iconst dX7_isFaulty_52 ?_
              refine g_istore_n (lv1 := [(2, .int (iI 0)), (0, .ref m0), (1, .int (iI k)), (3, .int (iI i))]) dX7_isFaulty_53 rfl (by decide) rfl ?_
              refine g_iinc (lv1 := [(3, .int (iI (i + 1))), (2, .int (iI 0)), (0, .ref m0), (1, .int (iI k))]) 3 dX7_isFaulty_54 rfl (by decide) rfl ?_
              refine g_goto (tgt := 4) dX7_isFaulty_57 rfl ?_
              refine g_lv (lv1 := [(0, .ref m0), (1, .int (iI k)), (2, .int (iI 0)), (3, .int (iI (i + 1)))]) [2, 3, 1, 0] rfl ?_
              exact ih4 (i + 1) 0 (by omega) (by rw [fl_s _ _ _ _ _ (by omega)]; rcases hw with ⟨e, h⟩ | ⟨e, h⟩; (rw [h]; first | (left; exact ⟨by omega, rfl⟩) | (exfalso; omega)); rw [h, Bool.false_or]; first | (left; refine ⟨by omega, ?_⟩; simp only [Bool.and_eq_true, decide_eq_true_eq]; omega) | (right; refine ⟨by omega, ?_⟩; simp only [Bool.and_eq_false_iff, decide_eq_false_iff_not]; omega)) (by omega)
          · refine g_iconst dX7_isFaulty_52 ?_
            refine g_istore_n (lv1 := [(2, .int (iI 0)), (0, .ref m0), (1, .int (iI k)), (3, .int (iI i))]) dX7_isFaulty_53 rfl (by decide) rfl ?_
            refine g_iinc (lv1 := [(3, .int (iI (i + 1))), (2, .int (iI 0)), (0, .ref m0), (1, .int (iI k))]) 3 dX7_isFaulty_54 rfl (by decide) rfl ?_
            refine g_goto (tgt := 4) dX7_isFaulty_57 rfl ?_
            refine g_lv (lv1 := [(0, .ref m0), (1, .int (iI k)), (2, .int (iI 0)), (3, .int (iI (i + 1)))]) [2, 3, 1, 0] rfl ?_
            exact ih4 (i + 1) 0 (by omega) (by rw [fl_s _ _ _ _ _ (by omega)]; rcases hw with ⟨e, h⟩ | ⟨e, h⟩; (rw [h]; first | (left; exact ⟨by omega, rfl⟩) | (exfalso; omega)); rw [h, Bool.false_or]; first | (left; refine ⟨by omega, ?_⟩; simp only [Bool.and_eq_true, decide_eq_true_eq]; omega) | (right; refine ⟨by omega, ?_⟩; simp only [Bool.and_eq_false_iff, decide_eq_false_iff_not]; omega)) (by omega)
        · refine g_iconst dX7_isFaulty_48 ?_
          refine g_goto (tgt := 53) dX7_isFaulty_49 rfl ?_
          refine g_istore_n (lv1 := [(2, .int (iI 1)), (0, .ref m0), (1, .int (iI k)), (3, .int (iI i))]) dX7_isFaulty_53 rfl (by decide) rfl ?_
          refine g_iinc (lv1 := [(3, .int (iI (i + 1))), (2, .int (iI 1)), (0, .ref m0), (1, .int (iI k))]) 3 dX7_isFaulty_54 rfl (by decide) rfl ?_
          refine g_goto (tgt := 4) dX7_isFaulty_57 rfl ?_
          refine g_lv (lv1 := [(0, .ref m0), (1, .int (iI k)), (2, .int (iI 1)), (3, .int (iI (i + 1)))]) [2, 3, 1, 0] rfl ?_
          exact ih4 (i + 1) 1 (by omega) (by rw [fl_s _ _ _ _ _ (by omega)]; rcases hw with ⟨e, h⟩ | ⟨e, h⟩; (rw [h]; first | (left; exact ⟨by omega, rfl⟩) | (exfalso; omega)); rw [h, Bool.false_or]; first | (left; refine ⟨by omega, ?_⟩; simp only [Bool.and_eq_true, decide_eq_true_eq]; omega) | (right; refine ⟨by omega, ?_⟩; simp only [Bool.and_eq_false_iff, decide_eq_false_iff_not]; omega)) (by omega)
  exact L4 _ 0 0 (by omega) (by right; exact ⟨rfl, rfl⟩) (lt_nn _)

set_option maxHeartbeats 4000000 in
set_option maxRecDepth 100000 in
theorem c_X7_takes (E : Ev) (m0 : Nat) (ra : Nat → Nat) (mm : Int) (nf : Int) (ti : Int) (so : Int) (ta : Int) (go : Int) (sl : Int) (lo : Int) (cn : Int) (lx : Int) (ly : Int) (pm : Int) (pi : Int) (gp : Int → Int) (k : Int) (hM : 2 ≤ mm ∧ mm ≤ 6) (hti : 0 ≤ ti ∧ ti ≤ 10000) (hso : 0 ≤ so ∧ so ≤ 100000) (hgo : 0 ≤ go ∧ go ≤ 20000) (hcn : 0 ≤ cn ∧ cn ≤ 200) (hlo : 0 ≤ lo ∧ lo ≤ 15) (hk : 0 ≤ k ∧ k ≤ 5) (hgr : ∀ j, 0 ≤ j → j < 6 → 0 ≤ gp j ∧ gp j ≤ 20) : MI yX7_takes wsX7_takes ({ frames := 0, cells := 0, slots := 0, locals := 0 } : Room) E [] 0 0 [.ref m0, .int (iI k)] [(m0, oo 7 (fMo ra mm nf ti so ta go sl lo cn lx ly pm pi)), (ra 5, aI E 6 gp)] (fun r u => ∃ (w : Int), ∃ (so' : Int), ∃ (ta' : Int), ∃ (gp' : Int → Int), ((w = 0 ∨ w = 1) ∧ (w = 0 ↔ (if k = 0 then so else gp (k - 1)) = 0)) ∧ (so' = (if k = 0 then (if w = 0 then so else so - 1) else so) ∧ ta' = (if k = 0 then (if w = 0 then ta else ta + 1) else ta)) ∧ gp' = (if k = 0 then gp else up gp (k - 1) (if w = 0 then gp (k - 1) else gp (k - 1) - 1)) ∧ r = iI w ∧ u = [(m0, oo 7 (fMo ra mm nf ti so' ta' go sl lo cn lx ly pm pi)), (ra 5, aI E 6 gp')]) := by
  refine MI.of (cc := cX7_takes) (maxL := 3) (own := RX7) (by decide) rfl rfl rfl (Nat.le_of_ble_eq_true rfl) [(0, .ref m0), (1, .int (iI k))] rfl ?_
  intro X hin2 hRet
  refine g_iload_n 1 dX7_takes_0 rfl rfl ?_
  refine g_if_ne (tgt := 55) (by unfold R32; omega) dX7_takes_1 rfl (fun c_1 => ?_) (fun c_1 => ?_)
  · refine g_aload_n 0 dX7_takes_4 rfl rfl ?_
    refine g_get (C := RX7) (T := TX7) (N := 43) 0 19 (fun _ h => List.mem_cons_of_mem _ (List.mem_append_right _ h)) (List.mem_of_getElem? (i := 1) rfl) rfl rfl (by decide) rfl rfl dX7_takes_5 ?_
    refine g_if_le (tgt := 15) (by unfold R32; omega) dX7_takes_8 rfl (fun c_2 => ?_) (fun c_2 => ?_)
    · refine g_iconst dX7_takes_15 ?_
      refine g_istore_n (lv1 := [(2, .int (iI 0)), (0, .ref m0), (1, .int (iI k))]) dX7_takes_16 rfl (by decide) rfl ?_
      refine g_aload_n 1 dX7_takes_17 rfl rfl ?_
      refine g_dup dX7_takes_18 rfl ?_
      refine g_get (C := RX7) (T := TX7) (N := 43) 0 19 (fun _ h => List.mem_cons_of_mem _ (List.mem_append_right _ h)) (List.mem_of_getElem? (i := 1) rfl) rfl rfl (by decide) rfl rfl dX7_takes_19 ?_
      refine g_iload_n 0 dX7_takes_22 rfl rfl ?_
      refine g_if_eq (tgt := 30) (by unfold R32; omega) dX7_takes_23 rfl (fun _ => ?_) (fun q => absurd q (by decide))
      refine g_iconst dX7_takes_30 ?_
      refine g_isub dX7_takes_31 ?_
      refine g_put (C := RX7) (T := TX7) (N := 43) (ws1 := [(m0, oo 7 (fMo ra mm nf ti (so - 0) ta go sl lo cn lx ly pm pi)), (ra 5, aI E 6 gp)]) 0 19 (fun _ h => List.mem_cons_of_mem _ (List.mem_append_right _ h)) tyX7 tyX7_ok nmX7 (List.mem_of_getElem? (i := 1) rfl) rfl rfl (by decide) rfl (tyX7_ok 19 (by decide)) rfl rfl (by first | decide | exact Nat.le_of_ble_eq_true rfl) dX7_takes_32 rfl rfl ?_
      refine g_aload_n 1 dX7_takes_35 rfl rfl ?_
      refine g_dup dX7_takes_36 rfl ?_
      refine g_get (C := RX7) (T := TX7) (N := 43) 0 20 (fun _ h => List.mem_cons_of_mem _ (List.mem_append_right _ h)) (List.mem_of_getElem? (i := 2) rfl) rfl rfl (by decide) rfl rfl dX7_takes_37 ?_
      refine g_iload_n 0 dX7_takes_40 rfl rfl ?_
      refine g_if_eq (tgt := 48) (by unfold R32; omega) dX7_takes_41 rfl (fun _ => ?_) (fun q => absurd q (by decide))
      refine g_iconst dX7_takes_48 ?_
      refine g_iadd dX7_takes_49 ?_
      refine g_put (C := RX7) (T := TX7) (N := 43) (ws1 := [(m0, oo 7 (fMo ra mm nf ti (so - 0) (ta + 0) go sl lo cn lx ly pm pi)), (ra 5, aI E 6 gp)]) 0 20 (fun _ h => List.mem_cons_of_mem _ (List.mem_append_right _ h)) tyX7 tyX7_ok nmX7 (List.mem_of_getElem? (i := 2) rfl) rfl rfl (by decide) rfl (tyX7_ok 20 (by decide)) rfl rfl (by first | decide | exact Nat.le_of_ble_eq_true rfl) dX7_takes_50 rfl rfl ?_
      refine g_iload_n 0 dX7_takes_53 rfl rfl ?_
      exact g_iret hRet dX7_takes_54 rfl ⟨0, (so - 0), (ta + 0), gp, (by refine ⟨by omega, ?_⟩; first | (rw [if_pos (by omega)]; omega) | (rw [if_neg (by omega)]; omega)), (by constructor <;> first | (rw [if_pos (by omega)]; first | (rw [if_pos (by omega)]; omega) | (rw [if_neg (by omega)])) | (rw [if_neg (by omega)])), (by first | (rw [if_pos (by omega)]; done) | (rw [if_neg (by omega)]; first | (rw [if_pos (by omega), Int.sub_zero]; done) | (rw [if_neg (by omega)]; done))), rfl, rfl⟩
    · refine g_iconst dX7_takes_11 ?_
      refine g_goto (tgt := 16) dX7_takes_12 rfl ?_
      refine g_istore_n (lv1 := [(2, .int (iI 1)), (0, .ref m0), (1, .int (iI k))]) dX7_takes_16 rfl (by decide) rfl ?_
      refine g_aload_n 1 dX7_takes_17 rfl rfl ?_
      refine g_dup dX7_takes_18 rfl ?_
      refine g_get (C := RX7) (T := TX7) (N := 43) 0 19 (fun _ h => List.mem_cons_of_mem _ (List.mem_append_right _ h)) (List.mem_of_getElem? (i := 1) rfl) rfl rfl (by decide) rfl rfl dX7_takes_19 ?_
      refine g_iload_n 0 dX7_takes_22 rfl rfl ?_
      refine g_if_eq (tgt := 30) (by unfold R32; omega) dX7_takes_23 rfl (fun q => absurd q (by decide)) (fun _ => ?_)
      refine g_iconst dX7_takes_26 ?_
      refine g_goto (tgt := 31) dX7_takes_27 rfl ?_
      refine g_isub dX7_takes_31 ?_
      refine g_put (C := RX7) (T := TX7) (N := 43) (ws1 := [(m0, oo 7 (fMo ra mm nf ti (so - 1) ta go sl lo cn lx ly pm pi)), (ra 5, aI E 6 gp)]) 0 19 (fun _ h => List.mem_cons_of_mem _ (List.mem_append_right _ h)) tyX7 tyX7_ok nmX7 (List.mem_of_getElem? (i := 1) rfl) rfl rfl (by decide) rfl (tyX7_ok 19 (by decide)) rfl rfl (by first | decide | exact Nat.le_of_ble_eq_true rfl) dX7_takes_32 rfl rfl ?_
      refine g_aload_n 1 dX7_takes_35 rfl rfl ?_
      refine g_dup dX7_takes_36 rfl ?_
      refine g_get (C := RX7) (T := TX7) (N := 43) 0 20 (fun _ h => List.mem_cons_of_mem _ (List.mem_append_right _ h)) (List.mem_of_getElem? (i := 2) rfl) rfl rfl (by decide) rfl rfl dX7_takes_37 ?_
      refine g_iload_n 0 dX7_takes_40 rfl rfl ?_
      refine g_if_eq (tgt := 48) (by unfold R32; omega) dX7_takes_41 rfl (fun q => absurd q (by decide)) (fun _ => ?_)
      refine g_iconst dX7_takes_44 ?_
      refine g_goto (tgt := 49) dX7_takes_45 rfl ?_
      refine g_iadd dX7_takes_49 ?_
      refine g_put (C := RX7) (T := TX7) (N := 43) (ws1 := [(m0, oo 7 (fMo ra mm nf ti (so - 1) (ta + 1) go sl lo cn lx ly pm pi)), (ra 5, aI E 6 gp)]) 0 20 (fun _ h => List.mem_cons_of_mem _ (List.mem_append_right _ h)) tyX7 tyX7_ok nmX7 (List.mem_of_getElem? (i := 2) rfl) rfl rfl (by decide) rfl (tyX7_ok 20 (by decide)) rfl rfl (by first | decide | exact Nat.le_of_ble_eq_true rfl) dX7_takes_50 rfl rfl ?_
      refine g_iload_n 0 dX7_takes_53 rfl rfl ?_
      exact g_iret hRet dX7_takes_54 rfl ⟨1, (so - 1), (ta + 1), gp, (by refine ⟨by omega, ?_⟩; first | (rw [if_pos (by omega)]; omega) | (rw [if_neg (by omega)]; omega)), (by constructor <;> first | (rw [if_pos (by omega)]; first | (rw [if_pos (by omega)]; omega) | (rw [if_neg (by omega)])) | (rw [if_neg (by omega)])), (by first | (rw [if_pos (by omega)]; done) | (rw [if_neg (by omega)]; first | (rw [if_pos (by omega), Int.sub_zero]; done) | (rw [if_neg (by omega)]; done))), rfl, rfl⟩
  · have q9 := hgr (k - 1) (by omega) (by omega)
    refine g_aload_n 0 dX7_takes_55 rfl rfl ?_
    refine g_get (C := RX7) (T := TX7) (N := 43) 0 5 (fun _ h => List.mem_cons_of_mem _ (List.mem_append_right _ h)) (List.mem_of_getElem? (i := 3) rfl) rfl rfl (by decide) rfl rfl dX7_takes_56 ?_
    refine g_iload_n 1 dX7_takes_59 rfl rfl ?_
    refine g_iconst dX7_takes_60 ?_
    refine g_isub dX7_takes_61 ?_
    refine g_iald 1 dX7_takes_62 rfl (by decide) (by omega) (by omega) ?_
    refine g_if_le (tgt := 70) (by unfold R32; omega) dX7_takes_63 rfl (fun c_7 => ?_) (fun c_7 => ?_)
    · refine g_iconst dX7_takes_70 ?_
      refine g_istore_n (lv1 := [(2, .int (iI 0)), (0, .ref m0), (1, .int (iI k))]) dX7_takes_71 rfl (by decide) rfl ?_
      refine g_aload_n 1 dX7_takes_72 rfl rfl ?_
      refine g_get (C := RX7) (T := TX7) (N := 43) 0 5 (fun _ h => List.mem_cons_of_mem _ (List.mem_append_right _ h)) (List.mem_of_getElem? (i := 3) rfl) rfl rfl (by decide) rfl rfl dX7_takes_73 ?_
      refine g_iload_n 2 dX7_takes_76 rfl rfl ?_
      refine g_iconst dX7_takes_77 ?_
      refine g_isub dX7_takes_78 ?_
      refine g_dup2 dX7_takes_79 rfl rfl ?_
      refine g_iald 1 dX7_takes_80 rfl (by decide) (by omega) (by omega) ?_
      refine g_iload_n 0 dX7_takes_81 rfl rfl ?_
      refine g_if_eq (tgt := 89) (by unfold R32; omega) dX7_takes_82 rfl (fun _ => ?_) (fun q => absurd q (by decide))
      refine g_iconst dX7_takes_89 ?_
      refine g_isub dX7_takes_90 ?_
      refine g_iast (ws1 := [(m0, oo 7 (fMo ra mm nf ti so ta go sl lo cn lx ly pm pi)), (ra 5, aI E 6 (up gp (k - 1) ((gp (k - 1)) - 0)))]) 1 dX7_takes_91 rfl rfl (by decide) (by omega) (by omega) ?_
      refine g_iload_n 0 dX7_takes_92 rfl rfl ?_
      exact g_iret hRet dX7_takes_93 rfl ⟨0, so, ta, (up gp (k - 1) ((gp (k - 1)) - 0)), (by refine ⟨by omega, ?_⟩; first | (rw [if_pos (by omega)]; omega) | (rw [if_neg (by omega)]; omega)), (by constructor <;> first | (rw [if_pos (by omega)]; first | (rw [if_pos (by omega)]; omega) | (rw [if_neg (by omega)])) | (rw [if_neg (by omega)])), (by first | (rw [if_pos (by omega)]; done) | (rw [if_neg (by omega)]; first | (rw [if_pos (by omega), Int.sub_zero]; done) | (rw [if_neg (by omega)]; done))), rfl, rfl⟩
    · refine g_iconst dX7_takes_66 ?_
      refine g_goto (tgt := 71) dX7_takes_67 rfl ?_
      refine g_istore_n (lv1 := [(2, .int (iI 1)), (0, .ref m0), (1, .int (iI k))]) dX7_takes_71 rfl (by decide) rfl ?_
      refine g_aload_n 1 dX7_takes_72 rfl rfl ?_
      refine g_get (C := RX7) (T := TX7) (N := 43) 0 5 (fun _ h => List.mem_cons_of_mem _ (List.mem_append_right _ h)) (List.mem_of_getElem? (i := 3) rfl) rfl rfl (by decide) rfl rfl dX7_takes_73 ?_
      refine g_iload_n 2 dX7_takes_76 rfl rfl ?_
      refine g_iconst dX7_takes_77 ?_
      refine g_isub dX7_takes_78 ?_
      refine g_dup2 dX7_takes_79 rfl rfl ?_
      refine g_iald 1 dX7_takes_80 rfl (by decide) (by omega) (by omega) ?_
      refine g_iload_n 0 dX7_takes_81 rfl rfl ?_
      refine g_if_eq (tgt := 89) (by unfold R32; omega) dX7_takes_82 rfl (fun q => absurd q (by decide)) (fun _ => ?_)
      refine g_iconst dX7_takes_85 ?_
      refine g_goto (tgt := 90) dX7_takes_86 rfl ?_
      refine g_isub dX7_takes_90 ?_
      refine g_iast (ws1 := [(m0, oo 7 (fMo ra mm nf ti so ta go sl lo cn lx ly pm pi)), (ra 5, aI E 6 (up gp (k - 1) ((gp (k - 1)) - 1)))]) 1 dX7_takes_91 rfl rfl (by decide) (by omega) (by omega) ?_
      refine g_iload_n 0 dX7_takes_92 rfl rfl ?_
      exact g_iret hRet dX7_takes_93 rfl ⟨1, so, ta, (up gp (k - 1) ((gp (k - 1)) - 1)), (by refine ⟨by omega, ?_⟩; first | (rw [if_pos (by omega)]; omega) | (rw [if_neg (by omega)]; omega)), (by constructor <;> first | (rw [if_pos (by omega)]; first | (rw [if_pos (by omega)]; omega) | (rw [if_neg (by omega)])) | (rw [if_neg (by omega)])), (by first | (rw [if_pos (by omega)]; done) | (rw [if_neg (by omega)]; first | (rw [if_pos (by omega), Int.sub_zero]; done) | (rw [if_neg (by omega)]; done))), rfl, rfl⟩

set_option maxHeartbeats 4000000 in
set_option maxRecDepth 100000 in
theorem c_X7_finishes (E : Ev) (m0 : Nat) (ra : Nat → Nat) (mm : Int) (nf : Int) (ti : Int) (so : Int) (ta : Int) (go : Int) (sl : Int) (lo : Int) (cn : Int) (lx : Int) (ly : Int) (pm : Int) (pi : Int) (g : Int → Int → Int) (S : Int → Int → Int) (d : Int → Int) (wk : Int → Int) (lt : Int → Int) (bo : Int → Int) (wg : Int → Int) (k : Int) (hM : 2 ≤ mm ∧ mm ≤ 6) (hti : 0 ≤ ti ∧ ti ≤ 10000) (hso : 0 ≤ so ∧ so ≤ 100000) (hgo : 0 ≤ go ∧ go ≤ 20000) (hcn : 0 ≤ cn ∧ cn ≤ 200) (hlo : 0 ≤ lo ∧ lo ≤ 15) (hk : 0 ≤ k ∧ k ≤ 5) (hd4 : d 4 = g k 4) (hd5 : d 5 = g k 5) (hd6 : d 6 = g k 6) (hd7 : d 7 = g k 7) (hd8 : d 8 = g k 8) (hd2 : d 2 = 0) (hd7b : 0 ≤ d 7 ∧ d 7 ≤ 20000) (hs : sOk (S k)) : MV yX7_finishes wsX7_finishes ({ frames := 0, cells := 0, slots := 0, locals := 0 } : Room) E [] 0 0 [.ref m0, .int (iI k)] [(m0, oo 7 (fMo ra mm nf ti so ta go sl lo cn lx ly pm pi)), (ra 2, aI E 6 (fun j => S j 1)), (ra 3, aI E 6 (fun j => S j 2)), (ra 7, aI E 6 (fun j => g j 4)), (ra 8, aI E 6 (fun j => g j 5)), (ra 9, aI E 6 (fun j => g j 6)), (ra 12, aI E 6 (fun j => g j 7)), (ra 13, aI E 6 (fun j => g j 8)), (ra 11, aI E 6 wk), (ra 26, aI E 200 lt), (ra 27, aI E 200 bo), (ra 28, aI E 200 wg)] (fun u => ∃ (c' : Int → Int), ∃ (gd : Int), sEnd k mm ti (S k) d c' gd ∧ (wkOf c' = (if c' 2 = 1 then 100 else -1) ∧ (gd = 0 ∨ gd = 1)) ∧ (u = [(m0, oo 7 (fMo ra mm nf ti so ta (if gd = 0 then go else go + 1) sl lo (if gd = 1 ∧ cn < 200 then cn + 1 else cn) lx ly pm pi)), (ra 2, aI E 6 (fun j => S j 1)), (ra 3, aI E 6 (fun j => S j 2)), (ra 7, aI E 6 (up (fun j => g j 4) k (c' 4))), (ra 8, aI E 6 (up (fun j => g j 5) k (c' 5))), (ra 9, aI E 6 (up (fun j => g j 6) k (c' 6))), (ra 12, aI E 6 (up (fun j => g j 7) k (c' 7))), (ra 13, aI E 6 (up (fun j => g j 8) k (c' 8))), (ra 11, aI E 6 (up wk k (if c' 2 = 1 then 100 else -1))), (ra 26, aI E 200 (if gd = 1 ∧ cn < 200 then up lt cn lo else lt)), (ra 27, aI E 200 (if gd = 1 ∧ cn < 200 then up bo cn (-4) else bo)), (ra 28, aI E 200 (if gd = 1 ∧ cn < 200 then up wg cn (-4) else wg))])) := by
  refine MV.of (cc := cX7_finishes) (maxL := 2) (own := RX7) (by decide) rfl rfl rfl (Nat.le_of_ble_eq_true rfl) [(0, .ref m0), (1, .int (iI k))] rfl ?_
  intro X hin2 hRet
  refine g_aload_n 0 dX7_finishes_0 rfl rfl ?_
  refine g_get (C := RX7) (T := TX7) (N := 43) 0 11 (fun _ h => List.mem_cons_of_mem _ (List.mem_append_right _ h)) (List.mem_of_getElem? (i := 1) rfl) rfl rfl (by decide) rfl rfl dX7_finishes_1 ?_
  refine g_iload_n 1 dX7_finishes_4 rfl rfl ?_
  refine g_iconst dX7_finishes_5 ?_
  refine g_iast (ws1 := [(m0, oo 7 (fMo ra mm nf ti so ta go sl lo cn lx ly pm pi)), (ra 2, aI E 6 (fun j => S j 1)), (ra 3, aI E 6 (fun j => S j 2)), (ra 7, aI E 6 (fun j => g j 4)), (ra 8, aI E 6 (fun j => g j 5)), (ra 9, aI E 6 (fun j => g j 6)), (ra 12, aI E 6 (fun j => g j 7)), (ra 13, aI E 6 (fun j => g j 8)), (ra 11, aI E 6 (up wk k (-1))), (ra 26, aI E 200 lt), (ra 27, aI E 200 bo), (ra 28, aI E 200 wg)]) 8 dX7_finishes_6 rfl rfl (by decide) (by omega) (by omega) ?_
  refine g_aload_n 0 dX7_finishes_7 rfl rfl ?_
  refine g_get (C := RX7) (T := TX7) (N := 43) 0 7 (fun _ h => List.mem_cons_of_mem _ (List.mem_append_right _ h)) (List.mem_of_getElem? (i := 2) rfl) rfl rfl (by decide) rfl rfl dX7_finishes_8 ?_
  refine g_iload_n 1 dX7_finishes_11 rfl rfl ?_
  refine g_dup2 dX7_finishes_12 rfl rfl ?_
  refine g_iald 3 dX7_finishes_13 rfl (by decide) (by omega) (by omega) ?_
  refine g_top (y := iI (d 4)) (by rw [hd4]) ?_
  refine g_iconst dX7_finishes_14 ?_
  refine g_iadd dX7_finishes_15 ?_
  refine g_iast (ws1 := [(m0, oo 7 (fMo ra mm nf ti so ta go sl lo cn lx ly pm pi)), (ra 2, aI E 6 (fun j => S j 1)), (ra 3, aI E 6 (fun j => S j 2)), (ra 7, aI E 6 (up (fun j => g j 4) k ((d 4) + 1))), (ra 8, aI E 6 (fun j => g j 5)), (ra 9, aI E 6 (fun j => g j 6)), (ra 12, aI E 6 (fun j => g j 7)), (ra 13, aI E 6 (fun j => g j 8)), (ra 11, aI E 6 (up wk k (-1))), (ra 26, aI E 200 lt), (ra 27, aI E 200 bo), (ra 28, aI E 200 wg)]) 3 dX7_finishes_16 rfl rfl (by decide) (by omega) (by omega) ?_
  refine g_aload_n 0 dX7_finishes_17 rfl rfl ?_
  refine g_get (C := RX7) (T := TX7) (N := 43) 0 2 (fun _ h => List.mem_cons_of_mem _ (List.mem_append_right _ h)) (List.mem_of_getElem? (i := 3) rfl) rfl rfl (by decide) rfl rfl dX7_finishes_18 ?_
  refine g_iload_n 1 dX7_finishes_21 rfl rfl ?_
  refine g_iald 1 dX7_finishes_22 rfl (by decide) (by omega) (by omega) ?_
  refine g_top (y := iI (S k 1)) rfl ?_
  refine g_if_le (tgt := 93) (by unfold sOk at hs; unfold R32; omega) dX7_finishes_23 rfl (fun hr1 => ?_) (fun hr1 => ?_)
  · refine g_aload_n 0 dX7_finishes_93 rfl rfl ?_
    refine g_get (C := RX7) (T := TX7) (N := 43) 0 3 (fun _ h => List.mem_cons_of_mem _ (List.mem_append_right _ h)) (List.mem_of_getElem? (i := 8) rfl) rfl rfl (by decide) rfl rfl dX7_finishes_94 ?_
    refine g_iload_n 1 dX7_finishes_97 rfl rfl ?_
    refine g_iald 2 dX7_finishes_98 rfl (by decide) (by omega) (by omega) ?_
    refine g_top (y := iI (S k 2)) rfl ?_
    refine g_if_le (tgt := 131) (by unfold sOk at hs; unfold R32; omega) dX7_finishes_99 rfl (fun hs1 => ?_) (fun hs1 => ?_)
    · refine g_iload_n 1 dX7_finishes_131 rfl rfl ?_
      refine g_aload_n 0 dX7_finishes_132 rfl rfl ?_
      refine g_get (C := RX7) (T := TX7) (N := 43) 0 0 (fun _ h => List.mem_cons_of_mem _ (List.mem_append_right _ h)) (List.mem_of_getElem? (i := 10) rfl) rfl rfl (by decide) rfl rfl dX7_finishes_133 ?_
      refine g_iconst dX7_finishes_136 ?_
      refine g_isub dX7_finishes_137 ?_
      refine g_icmp_ne (tgt := 209) (by unfold R32; omega) (by unfold R32; omega) dX7_finishes_138 rfl (fun hl => ?_) (fun hl => ?_)
      · refine g_aload_n 0 dX7_finishes_141 rfl rfl ?_
        refine g_dup dX7_finishes_142 rfl ?_
        refine g_get (C := RX7) (T := TX7) (N := 43) 0 21 (fun _ h => List.mem_cons_of_mem _ (List.mem_append_right _ h)) (List.mem_of_getElem? (i := 11) rfl) rfl rfl (by decide) rfl rfl dX7_finishes_143 ?_
        refine g_iconst dX7_finishes_146 ?_
        refine g_iadd dX7_finishes_147 ?_
        refine g_put (C := RX7) (T := TX7) (N := 43) (ws1 := [(m0, oo 7 (fMo ra mm nf ti so ta (go + 1) sl lo cn lx ly pm pi)), (ra 2, aI E 6 (fun j => S j 1)), (ra 3, aI E 6 (fun j => S j 2)), (ra 7, aI E 6 (up (fun j => g j 4) k ((d 4) + 1))), (ra 8, aI E 6 (fun j => g j 5)), (ra 9, aI E 6 (fun j => g j 6)), (ra 12, aI E 6 (fun j => g j 7)), (ra 13, aI E 6 (fun j => g j 8)), (ra 11, aI E 6 (up wk k (-1))), (ra 26, aI E 200 lt), (ra 27, aI E 200 bo), (ra 28, aI E 200 wg)]) 0 21 (fun _ h => List.mem_cons_of_mem _ (List.mem_append_right _ h)) tyX7 tyX7_ok nmX7 (List.mem_of_getElem? (i := 11) rfl) rfl rfl (by decide) rfl (tyX7_ok 21 (by decide)) rfl rfl (by first | decide | exact Nat.le_of_ble_eq_true rfl) dX7_finishes_148 rfl rfl ?_
        refine g_aload_n 0 dX7_finishes_151 rfl rfl ?_
        refine g_get (C := RX7) (T := TX7) (N := 43) 0 25 (fun _ h => List.mem_cons_of_mem _ (List.mem_append_right _ h)) (List.mem_of_getElem? (i := 12) rfl) rfl rfl (by decide) rfl rfl dX7_finishes_152 ?_
        refine g_sipush dX7_finishes_155 rfl ?_
        refine g_icmp_ge (tgt := 217) (by unfold R32; omega) (by unfold R32; omega) dX7_finishes_158 rfl (fun hc2 => ?_) (fun hc2 => ?_)
        · have hU_1 : up (fun j => g j 5) k (d 5) = (fun j => g j 5) := up_same (by rw [hd5])
          have hU_2 : up (fun j => g j 6) k (d 6) = (fun j => g j 6) := up_same (by rw [hd6])
          have hU_3 : up (fun j => g j 7) k (d 7) = (fun j => g j 7) := up_same (by rw [hd7])
          have hU_4 : up (fun j => g j 8) k (d 8) = (fun j => g j 8) := up_same (by rw [hd8])
          refine g_as (ws1 := [(m0, oo 7 (fMo ra mm nf ti so ta (go + 1) sl lo cn lx ly pm pi)), (ra 2, aI E 6 (fun j => S j 1)), (ra 3, aI E 6 (fun j => S j 2)), (ra 7, aI E 6 (up (fun j => g j 4) k ((d 4) + 1))), (ra 8, aI E 6 (up (fun j => g j 5) k (d 5))), (ra 9, aI E 6 (up (fun j => g j 6) k (d 6))), (ra 12, aI E 6 (up (fun j => g j 7) k (d 7))), (ra 13, aI E 6 (up (fun j => g j 8) k (d 8))), (ra 11, aI E 6 (up wk k (-1))), (ra 26, aI E 200 lt), (ra 27, aI E 200 bo), (ra 28, aI E 200 wg)]) ?_ (by rw [hU_1, hU_2, hU_3, hU_4]) rfl rfl
          exact g_vret hRet dX7_finishes_217 ⟨(up (up (up d 1 0) 3 0) 4 (d 4 + 1)), 1, (by unfold sOk at hs; unfold sEnd; first | (rw [if_pos ⟨by omega, by assumption⟩]; first | (rw [if_pos hw0]; exact ⟨rfl, rfl⟩) | (rw [if_neg hw0]; exact ⟨rfl, rfl⟩)) | (rw [if_neg (fun q => by first | (exact absurd q.2 (by assumption)) | (exact absurd q.1 (by omega)))]; first | (rw [if_pos ⟨by omega, by assumption⟩]; exact ⟨rfl, rfl⟩) | (rw [if_neg (fun q => by first | (exact absurd q.2 (by assumption)) | (exact absurd q.1 (by omega)))]; first | (rw [if_pos hl]; exact ⟨rfl, rfl⟩) | (rw [if_neg hl]; exact ⟨rfl, rfl⟩)))), (by refine ⟨?_, by omega⟩; unfold wkOf; simp [up, hd2]), (by first | (have hz : cn < 200 := (by omega); simp [up, hd2, hz]; done) | (have hz : ¬ cn < 200 := (by omega); simp [up, hd2, hz]; done))⟩
        · refine g_aload_n 0 dX7_finishes_161 rfl rfl ?_
          refine g_get (C := RX7) (T := TX7) (N := 43) 0 26 (fun _ h => List.mem_cons_of_mem _ (List.mem_append_right _ h)) (List.mem_of_getElem? (i := 13) rfl) rfl rfl (by decide) rfl rfl dX7_finishes_162 ?_
          refine g_aload_n 0 dX7_finishes_165 rfl rfl ?_
          refine g_get (C := RX7) (T := TX7) (N := 43) 0 25 (fun _ h => List.mem_cons_of_mem _ (List.mem_append_right _ h)) (List.mem_of_getElem? (i := 12) rfl) rfl rfl (by decide) rfl rfl dX7_finishes_166 ?_
          refine g_aload_n 0 dX7_finishes_169 rfl rfl ?_
          refine g_get (C := RX7) (T := TX7) (N := 43) 0 24 (fun _ h => List.mem_cons_of_mem _ (List.mem_append_right _ h)) (List.mem_of_getElem? (i := 14) rfl) rfl rfl (by decide) rfl rfl dX7_finishes_170 ?_
          refine g_iast (ws1 := [(m0, oo 7 (fMo ra mm nf ti so ta (go + 1) sl lo cn lx ly pm pi)), (ra 2, aI E 6 (fun j => S j 1)), (ra 3, aI E 6 (fun j => S j 2)), (ra 7, aI E 6 (up (fun j => g j 4) k ((d 4) + 1))), (ra 8, aI E 6 (fun j => g j 5)), (ra 9, aI E 6 (fun j => g j 6)), (ra 12, aI E 6 (fun j => g j 7)), (ra 13, aI E 6 (fun j => g j 8)), (ra 11, aI E 6 (up wk k (-1))), (ra 26, aI E 200 (up lt cn lo)), (ra 27, aI E 200 bo), (ra 28, aI E 200 wg)]) 9 dX7_finishes_173 rfl rfl (by decide) (by omega) (by omega) ?_
          refine g_aload_n 0 dX7_finishes_174 rfl rfl ?_
          refine g_get (C := RX7) (T := TX7) (N := 43) 0 27 (fun _ h => List.mem_cons_of_mem _ (List.mem_append_right _ h)) (List.mem_of_getElem? (i := 15) rfl) rfl rfl (by decide) rfl rfl dX7_finishes_175 ?_
          refine g_aload_n 0 dX7_finishes_178 rfl rfl ?_
          refine g_get (C := RX7) (T := TX7) (N := 43) 0 25 (fun _ h => List.mem_cons_of_mem _ (List.mem_append_right _ h)) (List.mem_of_getElem? (i := 12) rfl) rfl rfl (by decide) rfl rfl dX7_finishes_179 ?_
          refine g_bipush dX7_finishes_182 rfl ?_
          refine g_iast (ws1 := [(m0, oo 7 (fMo ra mm nf ti so ta (go + 1) sl lo cn lx ly pm pi)), (ra 2, aI E 6 (fun j => S j 1)), (ra 3, aI E 6 (fun j => S j 2)), (ra 7, aI E 6 (up (fun j => g j 4) k ((d 4) + 1))), (ra 8, aI E 6 (fun j => g j 5)), (ra 9, aI E 6 (fun j => g j 6)), (ra 12, aI E 6 (fun j => g j 7)), (ra 13, aI E 6 (fun j => g j 8)), (ra 11, aI E 6 (up wk k (-1))), (ra 26, aI E 200 (up lt cn lo)), (ra 27, aI E 200 (up bo cn (-4))), (ra 28, aI E 200 wg)]) 10 dX7_finishes_184 rfl rfl (by decide) (by omega) (by omega) ?_
          refine g_aload_n 0 dX7_finishes_185 rfl rfl ?_
          refine g_get (C := RX7) (T := TX7) (N := 43) 0 28 (fun _ h => List.mem_cons_of_mem _ (List.mem_append_right _ h)) (List.mem_of_getElem? (i := 16) rfl) rfl rfl (by decide) rfl rfl dX7_finishes_186 ?_
          refine g_aload_n 0 dX7_finishes_189 rfl rfl ?_
          refine g_get (C := RX7) (T := TX7) (N := 43) 0 25 (fun _ h => List.mem_cons_of_mem _ (List.mem_append_right _ h)) (List.mem_of_getElem? (i := 12) rfl) rfl rfl (by decide) rfl rfl dX7_finishes_190 ?_
          refine g_bipush dX7_finishes_193 rfl ?_
          refine g_iast (ws1 := [(m0, oo 7 (fMo ra mm nf ti so ta (go + 1) sl lo cn lx ly pm pi)), (ra 2, aI E 6 (fun j => S j 1)), (ra 3, aI E 6 (fun j => S j 2)), (ra 7, aI E 6 (up (fun j => g j 4) k ((d 4) + 1))), (ra 8, aI E 6 (fun j => g j 5)), (ra 9, aI E 6 (fun j => g j 6)), (ra 12, aI E 6 (fun j => g j 7)), (ra 13, aI E 6 (fun j => g j 8)), (ra 11, aI E 6 (up wk k (-1))), (ra 26, aI E 200 (up lt cn lo)), (ra 27, aI E 200 (up bo cn (-4))), (ra 28, aI E 200 (up wg cn (-4)))]) 11 dX7_finishes_195 rfl rfl (by decide) (by omega) (by omega) ?_
          refine g_aload_n 0 dX7_finishes_196 rfl rfl ?_
          refine g_dup dX7_finishes_197 rfl ?_
          refine g_get (C := RX7) (T := TX7) (N := 43) 0 25 (fun _ h => List.mem_cons_of_mem _ (List.mem_append_right _ h)) (List.mem_of_getElem? (i := 12) rfl) rfl rfl (by decide) rfl rfl dX7_finishes_198 ?_
          refine g_iconst dX7_finishes_201 ?_
          refine g_iadd dX7_finishes_202 ?_
          refine g_put (C := RX7) (T := TX7) (N := 43) (ws1 := [(m0, oo 7 (fMo ra mm nf ti so ta (go + 1) sl lo (cn + 1) lx ly pm pi)), (ra 2, aI E 6 (fun j => S j 1)), (ra 3, aI E 6 (fun j => S j 2)), (ra 7, aI E 6 (up (fun j => g j 4) k ((d 4) + 1))), (ra 8, aI E 6 (fun j => g j 5)), (ra 9, aI E 6 (fun j => g j 6)), (ra 12, aI E 6 (fun j => g j 7)), (ra 13, aI E 6 (fun j => g j 8)), (ra 11, aI E 6 (up wk k (-1))), (ra 26, aI E 200 (up lt cn lo)), (ra 27, aI E 200 (up bo cn (-4))), (ra 28, aI E 200 (up wg cn (-4)))]) 0 25 (fun _ h => List.mem_cons_of_mem _ (List.mem_append_right _ h)) tyX7 tyX7_ok nmX7 (List.mem_of_getElem? (i := 12) rfl) rfl rfl (by decide) rfl (tyX7_ok 25 (by decide)) rfl rfl (by first | decide | exact Nat.le_of_ble_eq_true rfl) dX7_finishes_203 rfl rfl ?_
          refine g_goto (tgt := 217) dX7_finishes_206 rfl ?_
          have hU_5 : up (fun j => g j 5) k (d 5) = (fun j => g j 5) := up_same (by rw [hd5])
          have hU_6 : up (fun j => g j 6) k (d 6) = (fun j => g j 6) := up_same (by rw [hd6])
          have hU_7 : up (fun j => g j 7) k (d 7) = (fun j => g j 7) := up_same (by rw [hd7])
          have hU_8 : up (fun j => g j 8) k (d 8) = (fun j => g j 8) := up_same (by rw [hd8])
          refine g_as (ws1 := [(m0, oo 7 (fMo ra mm nf ti so ta (go + 1) sl lo (cn + 1) lx ly pm pi)), (ra 2, aI E 6 (fun j => S j 1)), (ra 3, aI E 6 (fun j => S j 2)), (ra 7, aI E 6 (up (fun j => g j 4) k ((d 4) + 1))), (ra 8, aI E 6 (up (fun j => g j 5) k (d 5))), (ra 9, aI E 6 (up (fun j => g j 6) k (d 6))), (ra 12, aI E 6 (up (fun j => g j 7) k (d 7))), (ra 13, aI E 6 (up (fun j => g j 8) k (d 8))), (ra 11, aI E 6 (up wk k (-1))), (ra 26, aI E 200 (up lt cn lo)), (ra 27, aI E 200 (up bo cn (-4))), (ra 28, aI E 200 (up wg cn (-4)))]) ?_ (by rw [hU_5, hU_6, hU_7, hU_8]) rfl rfl
          exact g_vret hRet dX7_finishes_217 ⟨(up (up (up d 1 0) 3 0) 4 (d 4 + 1)), 1, (by unfold sOk at hs; unfold sEnd; first | (rw [if_pos ⟨by omega, by assumption⟩]; first | (rw [if_pos hw0]; exact ⟨rfl, rfl⟩) | (rw [if_neg hw0]; exact ⟨rfl, rfl⟩)) | (rw [if_neg (fun q => by first | (exact absurd q.2 (by assumption)) | (exact absurd q.1 (by omega)))]; first | (rw [if_pos ⟨by omega, by assumption⟩]; exact ⟨rfl, rfl⟩) | (rw [if_neg (fun q => by first | (exact absurd q.2 (by assumption)) | (exact absurd q.1 (by omega)))]; first | (rw [if_pos hl]; exact ⟨rfl, rfl⟩) | (rw [if_neg hl]; exact ⟨rfl, rfl⟩)))), (by refine ⟨?_, by omega⟩; unfold wkOf; simp [up, hd2]), (by first | (have hz : cn < 200 := (by omega); simp [up, hd2, hz]; done) | (have hz : ¬ cn < 200 := (by omega); simp [up, hd2, hz]; done))⟩
      · refine g_aload_n 0 dX7_finishes_209 rfl rfl ?_
        refine g_get (C := RX7) (T := TX7) (N := 43) 0 11 (fun _ h => List.mem_cons_of_mem _ (List.mem_append_right _ h)) (List.mem_of_getElem? (i := 1) rfl) rfl rfl (by decide) rfl rfl dX7_finishes_210 ?_
        refine g_iload_n 1 dX7_finishes_213 rfl rfl ?_
        refine g_bipush dX7_finishes_214 rfl ?_
        refine g_iast (ws1 := [(m0, oo 7 (fMo ra mm nf ti so ta go sl lo cn lx ly pm pi)), (ra 2, aI E 6 (fun j => S j 1)), (ra 3, aI E 6 (fun j => S j 2)), (ra 7, aI E 6 (up (fun j => g j 4) k ((d 4) + 1))), (ra 8, aI E 6 (fun j => g j 5)), (ra 9, aI E 6 (fun j => g j 6)), (ra 12, aI E 6 (fun j => g j 7)), (ra 13, aI E 6 (fun j => g j 8)), (ra 11, aI E 6 (up (up wk k (-1)) k 100)), (ra 26, aI E 200 lt), (ra 27, aI E 200 bo), (ra 28, aI E 200 wg)]) 8 dX7_finishes_216 rfl rfl (by decide) (by omega) (by omega) ?_
        have hU_9 : up (fun j => g j 5) k (d 5) = (fun j => g j 5) := up_same (by rw [hd5])
        have hU_10 : up (fun j => g j 6) k (d 6) = (fun j => g j 6) := up_same (by rw [hd6])
        have hU_11 : up (fun j => g j 7) k (d 7) = (fun j => g j 7) := up_same (by rw [hd7])
        have hU_12 : up (fun j => g j 8) k (d 8) = (fun j => g j 8) := up_same (by rw [hd8])
        refine g_as (ws1 := [(m0, oo 7 (fMo ra mm nf ti so ta go sl lo cn lx ly pm pi)), (ra 2, aI E 6 (fun j => S j 1)), (ra 3, aI E 6 (fun j => S j 2)), (ra 7, aI E 6 (up (fun j => g j 4) k ((d 4) + 1))), (ra 8, aI E 6 (up (fun j => g j 5) k (d 5))), (ra 9, aI E 6 (up (fun j => g j 6) k (d 6))), (ra 12, aI E 6 (up (fun j => g j 7) k (d 7))), (ra 13, aI E 6 (up (fun j => g j 8) k (d 8))), (ra 11, aI E 6 (up (up wk k (-1)) k 100)), (ra 26, aI E 200 lt), (ra 27, aI E 200 bo), (ra 28, aI E 200 wg)]) ?_ (by rw [hU_9, hU_10, hU_11, hU_12]) rfl rfl
        have hU_13 : up (up wk k (-1)) k 100 = up wk k 100 := up_up _ _ _ _
        refine g_as (ws1 := [(m0, oo 7 (fMo ra mm nf ti so ta go sl lo cn lx ly pm pi)), (ra 2, aI E 6 (fun j => S j 1)), (ra 3, aI E 6 (fun j => S j 2)), (ra 7, aI E 6 (up (fun j => g j 4) k ((d 4) + 1))), (ra 8, aI E 6 (up (fun j => g j 5) k (d 5))), (ra 9, aI E 6 (up (fun j => g j 6) k (d 6))), (ra 12, aI E 6 (up (fun j => g j 7) k (d 7))), (ra 13, aI E 6 (up (fun j => g j 8) k (d 8))), (ra 11, aI E 6 (up wk k 100)), (ra 26, aI E 200 lt), (ra 27, aI E 200 bo), (ra 28, aI E 200 wg)]) ?_ (by rw [hU_13]) rfl rfl
        exact g_vret hRet dX7_finishes_217 ⟨(up (up (up (up d 1 0) 3 0) 4 (d 4 + 1)) 2 1), 0, (by unfold sOk at hs; unfold sEnd; first | (rw [if_pos ⟨by omega, by assumption⟩]; first | (rw [if_pos hw0]; exact ⟨rfl, rfl⟩) | (rw [if_neg hw0]; exact ⟨rfl, rfl⟩)) | (rw [if_neg (fun q => by first | (exact absurd q.2 (by assumption)) | (exact absurd q.1 (by omega)))]; first | (rw [if_pos ⟨by omega, by assumption⟩]; exact ⟨rfl, rfl⟩) | (rw [if_neg (fun q => by first | (exact absurd q.2 (by assumption)) | (exact absurd q.1 (by omega)))]; first | (rw [if_pos hl]; exact ⟨rfl, rfl⟩) | (rw [if_neg hl]; exact ⟨rfl, rfl⟩)))), (by refine ⟨?_, by omega⟩; unfold wkOf; simp [up, hd2]), (by simp [up, hd2])⟩
    · refine g_aload_n 0 dX7_finishes_102 rfl rfl ?_
      refine g_get (C := RX7) (T := TX7) (N := 43) 0 7 (fun _ h => List.mem_cons_of_mem _ (List.mem_append_right _ h)) (List.mem_of_getElem? (i := 2) rfl) rfl rfl (by decide) rfl rfl dX7_finishes_103 ?_
      refine g_iload_n 1 dX7_finishes_106 rfl rfl ?_
      refine g_iald 3 dX7_finishes_107 rfl (by decide) (by omega) (by omega) ?_
      refine g_top (y := iI ((d 4) + 1)) (congrArg iI (up_s _ _ _)) ?_
      refine g_aload_n 0 dX7_finishes_108 rfl rfl ?_
      refine g_get (C := RX7) (T := TX7) (N := 43) 0 3 (fun _ h => List.mem_cons_of_mem _ (List.mem_append_right _ h)) (List.mem_of_getElem? (i := 8) rfl) rfl rfl (by decide) rfl rfl dX7_finishes_109 ?_
      refine g_iload_n 1 dX7_finishes_112 rfl rfl ?_
      refine g_iald 2 dX7_finishes_113 rfl (by decide) (by omega) (by omega) ?_
      refine g_top (y := iI (S k 2)) rfl ?_
      refine g_irem dX7_finishes_114 (by unfold sOk at hs; unfold R32; omega) ?_
      refine g_if_ne_r (tgt := 131) dX7_finishes_115 rfl (fun hs2 => ?_) (fun hs2 => ?_)
      · refine g_aload_n 0 dX7_finishes_118 rfl rfl ?_
        refine g_get (C := RX7) (T := TX7) (N := 43) 0 9 (fun _ h => List.mem_cons_of_mem _ (List.mem_append_right _ h)) (List.mem_of_getElem? (i := 9) rfl) rfl rfl (by decide) rfl rfl dX7_finishes_119 ?_
        refine g_iload_n 1 dX7_finishes_122 rfl rfl ?_
        refine g_dup2 dX7_finishes_123 rfl rfl ?_
        refine g_iald 5 dX7_finishes_124 rfl (by decide) (by omega) (by omega) ?_
        refine g_top (y := iI (d 6)) (by rw [hd6]) ?_
        refine g_iconst dX7_finishes_125 ?_
        refine g_iadd dX7_finishes_126 ?_
        refine g_iast (ws1 := [(m0, oo 7 (fMo ra mm nf ti so ta go sl lo cn lx ly pm pi)), (ra 2, aI E 6 (fun j => S j 1)), (ra 3, aI E 6 (fun j => S j 2)), (ra 7, aI E 6 (up (fun j => g j 4) k ((d 4) + 1))), (ra 8, aI E 6 (fun j => g j 5)), (ra 9, aI E 6 (up (fun j => g j 6) k ((d 6) + 1))), (ra 12, aI E 6 (fun j => g j 7)), (ra 13, aI E 6 (fun j => g j 8)), (ra 11, aI E 6 (up wk k (-1))), (ra 26, aI E 200 lt), (ra 27, aI E 200 bo), (ra 28, aI E 200 wg)]) 5 dX7_finishes_127 rfl rfl (by decide) (by omega) (by omega) ?_
        refine g_goto (tgt := 217) dX7_finishes_128 rfl ?_
        have hU_14 : up (fun j => g j 5) k (d 5) = (fun j => g j 5) := up_same (by rw [hd5])
        have hU_15 : up (fun j => g j 7) k (d 7) = (fun j => g j 7) := up_same (by rw [hd7])
        have hU_16 : up (fun j => g j 8) k (d 8) = (fun j => g j 8) := up_same (by rw [hd8])
        refine g_as (ws1 := [(m0, oo 7 (fMo ra mm nf ti so ta go sl lo cn lx ly pm pi)), (ra 2, aI E 6 (fun j => S j 1)), (ra 3, aI E 6 (fun j => S j 2)), (ra 7, aI E 6 (up (fun j => g j 4) k ((d 4) + 1))), (ra 8, aI E 6 (up (fun j => g j 5) k (d 5))), (ra 9, aI E 6 (up (fun j => g j 6) k ((d 6) + 1))), (ra 12, aI E 6 (up (fun j => g j 7) k (d 7))), (ra 13, aI E 6 (up (fun j => g j 8) k (d 8))), (ra 11, aI E 6 (up wk k (-1))), (ra 26, aI E 200 lt), (ra 27, aI E 200 bo), (ra 28, aI E 200 wg)]) ?_ (by rw [hU_14, hU_15, hU_16]) rfl rfl
        exact g_vret hRet dX7_finishes_217 ⟨(up (up (up (up d 1 0) 3 0) 4 (d 4 + 1)) 6 (d 6 + 1)), 0, (by unfold sOk at hs; unfold sEnd; first | (rw [if_pos ⟨by omega, by assumption⟩]; first | (rw [if_pos hw0]; exact ⟨rfl, rfl⟩) | (rw [if_neg hw0]; exact ⟨rfl, rfl⟩)) | (rw [if_neg (fun q => by first | (exact absurd q.2 (by assumption)) | (exact absurd q.1 (by omega)))]; first | (rw [if_pos ⟨by omega, by assumption⟩]; exact ⟨rfl, rfl⟩) | (rw [if_neg (fun q => by first | (exact absurd q.2 (by assumption)) | (exact absurd q.1 (by omega)))]; first | (rw [if_pos hl]; exact ⟨rfl, rfl⟩) | (rw [if_neg hl]; exact ⟨rfl, rfl⟩)))), (by refine ⟨?_, by omega⟩; unfold wkOf; simp [up, hd2]), (by simp [up, hd2])⟩
      · refine g_iload_n 1 dX7_finishes_131 rfl rfl ?_
        refine g_aload_n 0 dX7_finishes_132 rfl rfl ?_
        refine g_get (C := RX7) (T := TX7) (N := 43) 0 0 (fun _ h => List.mem_cons_of_mem _ (List.mem_append_right _ h)) (List.mem_of_getElem? (i := 10) rfl) rfl rfl (by decide) rfl rfl dX7_finishes_133 ?_
        refine g_iconst dX7_finishes_136 ?_
        refine g_isub dX7_finishes_137 ?_
        refine g_icmp_ne (tgt := 209) (by unfold R32; omega) (by unfold R32; omega) dX7_finishes_138 rfl (fun hl => ?_) (fun hl => ?_)
        · refine g_aload_n 0 dX7_finishes_141 rfl rfl ?_
          refine g_dup dX7_finishes_142 rfl ?_
          refine g_get (C := RX7) (T := TX7) (N := 43) 0 21 (fun _ h => List.mem_cons_of_mem _ (List.mem_append_right _ h)) (List.mem_of_getElem? (i := 11) rfl) rfl rfl (by decide) rfl rfl dX7_finishes_143 ?_
          refine g_iconst dX7_finishes_146 ?_
          refine g_iadd dX7_finishes_147 ?_
          refine g_put (C := RX7) (T := TX7) (N := 43) (ws1 := [(m0, oo 7 (fMo ra mm nf ti so ta (go + 1) sl lo cn lx ly pm pi)), (ra 2, aI E 6 (fun j => S j 1)), (ra 3, aI E 6 (fun j => S j 2)), (ra 7, aI E 6 (up (fun j => g j 4) k ((d 4) + 1))), (ra 8, aI E 6 (fun j => g j 5)), (ra 9, aI E 6 (fun j => g j 6)), (ra 12, aI E 6 (fun j => g j 7)), (ra 13, aI E 6 (fun j => g j 8)), (ra 11, aI E 6 (up wk k (-1))), (ra 26, aI E 200 lt), (ra 27, aI E 200 bo), (ra 28, aI E 200 wg)]) 0 21 (fun _ h => List.mem_cons_of_mem _ (List.mem_append_right _ h)) tyX7 tyX7_ok nmX7 (List.mem_of_getElem? (i := 11) rfl) rfl rfl (by decide) rfl (tyX7_ok 21 (by decide)) rfl rfl (by first | decide | exact Nat.le_of_ble_eq_true rfl) dX7_finishes_148 rfl rfl ?_
          refine g_aload_n 0 dX7_finishes_151 rfl rfl ?_
          refine g_get (C := RX7) (T := TX7) (N := 43) 0 25 (fun _ h => List.mem_cons_of_mem _ (List.mem_append_right _ h)) (List.mem_of_getElem? (i := 12) rfl) rfl rfl (by decide) rfl rfl dX7_finishes_152 ?_
          refine g_sipush dX7_finishes_155 rfl ?_
          refine g_icmp_ge (tgt := 217) (by unfold R32; omega) (by unfold R32; omega) dX7_finishes_158 rfl (fun hc2 => ?_) (fun hc2 => ?_)
          · have hU_17 : up (fun j => g j 5) k (d 5) = (fun j => g j 5) := up_same (by rw [hd5])
            have hU_18 : up (fun j => g j 6) k (d 6) = (fun j => g j 6) := up_same (by rw [hd6])
            have hU_19 : up (fun j => g j 7) k (d 7) = (fun j => g j 7) := up_same (by rw [hd7])
            have hU_20 : up (fun j => g j 8) k (d 8) = (fun j => g j 8) := up_same (by rw [hd8])
            refine g_as (ws1 := [(m0, oo 7 (fMo ra mm nf ti so ta (go + 1) sl lo cn lx ly pm pi)), (ra 2, aI E 6 (fun j => S j 1)), (ra 3, aI E 6 (fun j => S j 2)), (ra 7, aI E 6 (up (fun j => g j 4) k ((d 4) + 1))), (ra 8, aI E 6 (up (fun j => g j 5) k (d 5))), (ra 9, aI E 6 (up (fun j => g j 6) k (d 6))), (ra 12, aI E 6 (up (fun j => g j 7) k (d 7))), (ra 13, aI E 6 (up (fun j => g j 8) k (d 8))), (ra 11, aI E 6 (up wk k (-1))), (ra 26, aI E 200 lt), (ra 27, aI E 200 bo), (ra 28, aI E 200 wg)]) ?_ (by rw [hU_17, hU_18, hU_19, hU_20]) rfl rfl
            exact g_vret hRet dX7_finishes_217 ⟨(up (up (up d 1 0) 3 0) 4 (d 4 + 1)), 1, (by unfold sOk at hs; unfold sEnd; first | (rw [if_pos ⟨by omega, by assumption⟩]; first | (rw [if_pos hw0]; exact ⟨rfl, rfl⟩) | (rw [if_neg hw0]; exact ⟨rfl, rfl⟩)) | (rw [if_neg (fun q => by first | (exact absurd q.2 (by assumption)) | (exact absurd q.1 (by omega)))]; first | (rw [if_pos ⟨by omega, by assumption⟩]; exact ⟨rfl, rfl⟩) | (rw [if_neg (fun q => by first | (exact absurd q.2 (by assumption)) | (exact absurd q.1 (by omega)))]; first | (rw [if_pos hl]; exact ⟨rfl, rfl⟩) | (rw [if_neg hl]; exact ⟨rfl, rfl⟩)))), (by refine ⟨?_, by omega⟩; unfold wkOf; simp [up, hd2]), (by first | (have hz : cn < 200 := (by omega); simp [up, hd2, hz]; done) | (have hz : ¬ cn < 200 := (by omega); simp [up, hd2, hz]; done))⟩
          · refine g_aload_n 0 dX7_finishes_161 rfl rfl ?_
            refine g_get (C := RX7) (T := TX7) (N := 43) 0 26 (fun _ h => List.mem_cons_of_mem _ (List.mem_append_right _ h)) (List.mem_of_getElem? (i := 13) rfl) rfl rfl (by decide) rfl rfl dX7_finishes_162 ?_
            refine g_aload_n 0 dX7_finishes_165 rfl rfl ?_
            refine g_get (C := RX7) (T := TX7) (N := 43) 0 25 (fun _ h => List.mem_cons_of_mem _ (List.mem_append_right _ h)) (List.mem_of_getElem? (i := 12) rfl) rfl rfl (by decide) rfl rfl dX7_finishes_166 ?_
            refine g_aload_n 0 dX7_finishes_169 rfl rfl ?_
            refine g_get (C := RX7) (T := TX7) (N := 43) 0 24 (fun _ h => List.mem_cons_of_mem _ (List.mem_append_right _ h)) (List.mem_of_getElem? (i := 14) rfl) rfl rfl (by decide) rfl rfl dX7_finishes_170 ?_
            refine g_iast (ws1 := [(m0, oo 7 (fMo ra mm nf ti so ta (go + 1) sl lo cn lx ly pm pi)), (ra 2, aI E 6 (fun j => S j 1)), (ra 3, aI E 6 (fun j => S j 2)), (ra 7, aI E 6 (up (fun j => g j 4) k ((d 4) + 1))), (ra 8, aI E 6 (fun j => g j 5)), (ra 9, aI E 6 (fun j => g j 6)), (ra 12, aI E 6 (fun j => g j 7)), (ra 13, aI E 6 (fun j => g j 8)), (ra 11, aI E 6 (up wk k (-1))), (ra 26, aI E 200 (up lt cn lo)), (ra 27, aI E 200 bo), (ra 28, aI E 200 wg)]) 9 dX7_finishes_173 rfl rfl (by decide) (by omega) (by omega) ?_
            refine g_aload_n 0 dX7_finishes_174 rfl rfl ?_
            refine g_get (C := RX7) (T := TX7) (N := 43) 0 27 (fun _ h => List.mem_cons_of_mem _ (List.mem_append_right _ h)) (List.mem_of_getElem? (i := 15) rfl) rfl rfl (by decide) rfl rfl dX7_finishes_175 ?_
            refine g_aload_n 0 dX7_finishes_178 rfl rfl ?_
            refine g_get (C := RX7) (T := TX7) (N := 43) 0 25 (fun _ h => List.mem_cons_of_mem _ (List.mem_append_right _ h)) (List.mem_of_getElem? (i := 12) rfl) rfl rfl (by decide) rfl rfl dX7_finishes_179 ?_
            refine g_bipush dX7_finishes_182 rfl ?_
            refine g_iast (ws1 := [(m0, oo 7 (fMo ra mm nf ti so ta (go + 1) sl lo cn lx ly pm pi)), (ra 2, aI E 6 (fun j => S j 1)), (ra 3, aI E 6 (fun j => S j 2)), (ra 7, aI E 6 (up (fun j => g j 4) k ((d 4) + 1))), (ra 8, aI E 6 (fun j => g j 5)), (ra 9, aI E 6 (fun j => g j 6)), (ra 12, aI E 6 (fun j => g j 7)), (ra 13, aI E 6 (fun j => g j 8)), (ra 11, aI E 6 (up wk k (-1))), (ra 26, aI E 200 (up lt cn lo)), (ra 27, aI E 200 (up bo cn (-4))), (ra 28, aI E 200 wg)]) 10 dX7_finishes_184 rfl rfl (by decide) (by omega) (by omega) ?_
            refine g_aload_n 0 dX7_finishes_185 rfl rfl ?_
            refine g_get (C := RX7) (T := TX7) (N := 43) 0 28 (fun _ h => List.mem_cons_of_mem _ (List.mem_append_right _ h)) (List.mem_of_getElem? (i := 16) rfl) rfl rfl (by decide) rfl rfl dX7_finishes_186 ?_
            refine g_aload_n 0 dX7_finishes_189 rfl rfl ?_
            refine g_get (C := RX7) (T := TX7) (N := 43) 0 25 (fun _ h => List.mem_cons_of_mem _ (List.mem_append_right _ h)) (List.mem_of_getElem? (i := 12) rfl) rfl rfl (by decide) rfl rfl dX7_finishes_190 ?_
            refine g_bipush dX7_finishes_193 rfl ?_
            refine g_iast (ws1 := [(m0, oo 7 (fMo ra mm nf ti so ta (go + 1) sl lo cn lx ly pm pi)), (ra 2, aI E 6 (fun j => S j 1)), (ra 3, aI E 6 (fun j => S j 2)), (ra 7, aI E 6 (up (fun j => g j 4) k ((d 4) + 1))), (ra 8, aI E 6 (fun j => g j 5)), (ra 9, aI E 6 (fun j => g j 6)), (ra 12, aI E 6 (fun j => g j 7)), (ra 13, aI E 6 (fun j => g j 8)), (ra 11, aI E 6 (up wk k (-1))), (ra 26, aI E 200 (up lt cn lo)), (ra 27, aI E 200 (up bo cn (-4))), (ra 28, aI E 200 (up wg cn (-4)))]) 11 dX7_finishes_195 rfl rfl (by decide) (by omega) (by omega) ?_
            refine g_aload_n 0 dX7_finishes_196 rfl rfl ?_
            refine g_dup dX7_finishes_197 rfl ?_
            refine g_get (C := RX7) (T := TX7) (N := 43) 0 25 (fun _ h => List.mem_cons_of_mem _ (List.mem_append_right _ h)) (List.mem_of_getElem? (i := 12) rfl) rfl rfl (by decide) rfl rfl dX7_finishes_198 ?_
            refine g_iconst dX7_finishes_201 ?_
            refine g_iadd dX7_finishes_202 ?_
            refine g_put (C := RX7) (T := TX7) (N := 43) (ws1 := [(m0, oo 7 (fMo ra mm nf ti so ta (go + 1) sl lo (cn + 1) lx ly pm pi)), (ra 2, aI E 6 (fun j => S j 1)), (ra 3, aI E 6 (fun j => S j 2)), (ra 7, aI E 6 (up (fun j => g j 4) k ((d 4) + 1))), (ra 8, aI E 6 (fun j => g j 5)), (ra 9, aI E 6 (fun j => g j 6)), (ra 12, aI E 6 (fun j => g j 7)), (ra 13, aI E 6 (fun j => g j 8)), (ra 11, aI E 6 (up wk k (-1))), (ra 26, aI E 200 (up lt cn lo)), (ra 27, aI E 200 (up bo cn (-4))), (ra 28, aI E 200 (up wg cn (-4)))]) 0 25 (fun _ h => List.mem_cons_of_mem _ (List.mem_append_right _ h)) tyX7 tyX7_ok nmX7 (List.mem_of_getElem? (i := 12) rfl) rfl rfl (by decide) rfl (tyX7_ok 25 (by decide)) rfl rfl (by first | decide | exact Nat.le_of_ble_eq_true rfl) dX7_finishes_203 rfl rfl ?_
            refine g_goto (tgt := 217) dX7_finishes_206 rfl ?_
            have hU_21 : up (fun j => g j 5) k (d 5) = (fun j => g j 5) := up_same (by rw [hd5])
            have hU_22 : up (fun j => g j 6) k (d 6) = (fun j => g j 6) := up_same (by rw [hd6])
            have hU_23 : up (fun j => g j 7) k (d 7) = (fun j => g j 7) := up_same (by rw [hd7])
            have hU_24 : up (fun j => g j 8) k (d 8) = (fun j => g j 8) := up_same (by rw [hd8])
            refine g_as (ws1 := [(m0, oo 7 (fMo ra mm nf ti so ta (go + 1) sl lo (cn + 1) lx ly pm pi)), (ra 2, aI E 6 (fun j => S j 1)), (ra 3, aI E 6 (fun j => S j 2)), (ra 7, aI E 6 (up (fun j => g j 4) k ((d 4) + 1))), (ra 8, aI E 6 (up (fun j => g j 5) k (d 5))), (ra 9, aI E 6 (up (fun j => g j 6) k (d 6))), (ra 12, aI E 6 (up (fun j => g j 7) k (d 7))), (ra 13, aI E 6 (up (fun j => g j 8) k (d 8))), (ra 11, aI E 6 (up wk k (-1))), (ra 26, aI E 200 (up lt cn lo)), (ra 27, aI E 200 (up bo cn (-4))), (ra 28, aI E 200 (up wg cn (-4)))]) ?_ (by rw [hU_21, hU_22, hU_23, hU_24]) rfl rfl
            exact g_vret hRet dX7_finishes_217 ⟨(up (up (up d 1 0) 3 0) 4 (d 4 + 1)), 1, (by unfold sOk at hs; unfold sEnd; first | (rw [if_pos ⟨by omega, by assumption⟩]; first | (rw [if_pos hw0]; exact ⟨rfl, rfl⟩) | (rw [if_neg hw0]; exact ⟨rfl, rfl⟩)) | (rw [if_neg (fun q => by first | (exact absurd q.2 (by assumption)) | (exact absurd q.1 (by omega)))]; first | (rw [if_pos ⟨by omega, by assumption⟩]; exact ⟨rfl, rfl⟩) | (rw [if_neg (fun q => by first | (exact absurd q.2 (by assumption)) | (exact absurd q.1 (by omega)))]; first | (rw [if_pos hl]; exact ⟨rfl, rfl⟩) | (rw [if_neg hl]; exact ⟨rfl, rfl⟩)))), (by refine ⟨?_, by omega⟩; unfold wkOf; simp [up, hd2]), (by first | (have hz : cn < 200 := (by omega); simp [up, hd2, hz]; done) | (have hz : ¬ cn < 200 := (by omega); simp [up, hd2, hz]; done))⟩
        · refine g_aload_n 0 dX7_finishes_209 rfl rfl ?_
          refine g_get (C := RX7) (T := TX7) (N := 43) 0 11 (fun _ h => List.mem_cons_of_mem _ (List.mem_append_right _ h)) (List.mem_of_getElem? (i := 1) rfl) rfl rfl (by decide) rfl rfl dX7_finishes_210 ?_
          refine g_iload_n 1 dX7_finishes_213 rfl rfl ?_
          refine g_bipush dX7_finishes_214 rfl ?_
          refine g_iast (ws1 := [(m0, oo 7 (fMo ra mm nf ti so ta go sl lo cn lx ly pm pi)), (ra 2, aI E 6 (fun j => S j 1)), (ra 3, aI E 6 (fun j => S j 2)), (ra 7, aI E 6 (up (fun j => g j 4) k ((d 4) + 1))), (ra 8, aI E 6 (fun j => g j 5)), (ra 9, aI E 6 (fun j => g j 6)), (ra 12, aI E 6 (fun j => g j 7)), (ra 13, aI E 6 (fun j => g j 8)), (ra 11, aI E 6 (up (up wk k (-1)) k 100)), (ra 26, aI E 200 lt), (ra 27, aI E 200 bo), (ra 28, aI E 200 wg)]) 8 dX7_finishes_216 rfl rfl (by decide) (by omega) (by omega) ?_
          have hU_25 : up (fun j => g j 5) k (d 5) = (fun j => g j 5) := up_same (by rw [hd5])
          have hU_26 : up (fun j => g j 6) k (d 6) = (fun j => g j 6) := up_same (by rw [hd6])
          have hU_27 : up (fun j => g j 7) k (d 7) = (fun j => g j 7) := up_same (by rw [hd7])
          have hU_28 : up (fun j => g j 8) k (d 8) = (fun j => g j 8) := up_same (by rw [hd8])
          refine g_as (ws1 := [(m0, oo 7 (fMo ra mm nf ti so ta go sl lo cn lx ly pm pi)), (ra 2, aI E 6 (fun j => S j 1)), (ra 3, aI E 6 (fun j => S j 2)), (ra 7, aI E 6 (up (fun j => g j 4) k ((d 4) + 1))), (ra 8, aI E 6 (up (fun j => g j 5) k (d 5))), (ra 9, aI E 6 (up (fun j => g j 6) k (d 6))), (ra 12, aI E 6 (up (fun j => g j 7) k (d 7))), (ra 13, aI E 6 (up (fun j => g j 8) k (d 8))), (ra 11, aI E 6 (up (up wk k (-1)) k 100)), (ra 26, aI E 200 lt), (ra 27, aI E 200 bo), (ra 28, aI E 200 wg)]) ?_ (by rw [hU_25, hU_26, hU_27, hU_28]) rfl rfl
          have hU_29 : up (up wk k (-1)) k 100 = up wk k 100 := up_up _ _ _ _
          refine g_as (ws1 := [(m0, oo 7 (fMo ra mm nf ti so ta go sl lo cn lx ly pm pi)), (ra 2, aI E 6 (fun j => S j 1)), (ra 3, aI E 6 (fun j => S j 2)), (ra 7, aI E 6 (up (fun j => g j 4) k ((d 4) + 1))), (ra 8, aI E 6 (up (fun j => g j 5) k (d 5))), (ra 9, aI E 6 (up (fun j => g j 6) k (d 6))), (ra 12, aI E 6 (up (fun j => g j 7) k (d 7))), (ra 13, aI E 6 (up (fun j => g j 8) k (d 8))), (ra 11, aI E 6 (up wk k 100)), (ra 26, aI E 200 lt), (ra 27, aI E 200 bo), (ra 28, aI E 200 wg)]) ?_ (by rw [hU_29]) rfl rfl
          exact g_vret hRet dX7_finishes_217 ⟨(up (up (up (up d 1 0) 3 0) 4 (d 4 + 1)) 2 1), 0, (by unfold sOk at hs; unfold sEnd; first | (rw [if_pos ⟨by omega, by assumption⟩]; first | (rw [if_pos hw0]; exact ⟨rfl, rfl⟩) | (rw [if_neg hw0]; exact ⟨rfl, rfl⟩)) | (rw [if_neg (fun q => by first | (exact absurd q.2 (by assumption)) | (exact absurd q.1 (by omega)))]; first | (rw [if_pos ⟨by omega, by assumption⟩]; exact ⟨rfl, rfl⟩) | (rw [if_neg (fun q => by first | (exact absurd q.2 (by assumption)) | (exact absurd q.1 (by omega)))]; first | (rw [if_pos hl]; exact ⟨rfl, rfl⟩) | (rw [if_neg hl]; exact ⟨rfl, rfl⟩)))), (by refine ⟨?_, by omega⟩; unfold wkOf; simp [up, hd2]), (by simp [up, hd2])⟩
  · refine g_aload_n 0 dX7_finishes_26 rfl rfl ?_
    refine g_get (C := RX7) (T := TX7) (N := 43) 0 7 (fun _ h => List.mem_cons_of_mem _ (List.mem_append_right _ h)) (List.mem_of_getElem? (i := 2) rfl) rfl rfl (by decide) rfl rfl dX7_finishes_27 ?_
    refine g_iload_n 1 dX7_finishes_30 rfl rfl ?_
    refine g_iald 3 dX7_finishes_31 rfl (by decide) (by omega) (by omega) ?_
    refine g_top (y := iI ((d 4) + 1)) (congrArg iI (up_s _ _ _)) ?_
    refine g_aload_n 0 dX7_finishes_32 rfl rfl ?_
    refine g_get (C := RX7) (T := TX7) (N := 43) 0 2 (fun _ h => List.mem_cons_of_mem _ (List.mem_append_right _ h)) (List.mem_of_getElem? (i := 3) rfl) rfl rfl (by decide) rfl rfl dX7_finishes_33 ?_
    refine g_iload_n 1 dX7_finishes_36 rfl rfl ?_
    refine g_iald 1 dX7_finishes_37 rfl (by decide) (by omega) (by omega) ?_
    refine g_top (y := iI (S k 1)) rfl ?_
    refine g_irem dX7_finishes_38 (by unfold sOk at hs; unfold R32; omega) ?_
    refine g_if_ne_r (tgt := 93) dX7_finishes_39 rfl (fun hr2 => ?_) (fun hr2 => ?_)
    · refine g_aload_n 0 dX7_finishes_42 rfl rfl ?_
      refine g_get (C := RX7) (T := TX7) (N := 43) 0 8 (fun _ h => List.mem_cons_of_mem _ (List.mem_append_right _ h)) (List.mem_of_getElem? (i := 4) rfl) rfl rfl (by decide) rfl rfl dX7_finishes_43 ?_
      refine g_iload_n 1 dX7_finishes_46 rfl rfl ?_
      refine g_dup2 dX7_finishes_47 rfl rfl ?_
      refine g_iald 4 dX7_finishes_48 rfl (by decide) (by omega) (by omega) ?_
      refine g_top (y := iI (d 5)) (by rw [hd5]) ?_
      refine g_iconst dX7_finishes_49 ?_
      refine g_iadd dX7_finishes_50 ?_
      refine g_iast (ws1 := [(m0, oo 7 (fMo ra mm nf ti so ta go sl lo cn lx ly pm pi)), (ra 2, aI E 6 (fun j => S j 1)), (ra 3, aI E 6 (fun j => S j 2)), (ra 7, aI E 6 (up (fun j => g j 4) k ((d 4) + 1))), (ra 8, aI E 6 (up (fun j => g j 5) k ((d 5) + 1))), (ra 9, aI E 6 (fun j => g j 6)), (ra 12, aI E 6 (fun j => g j 7)), (ra 13, aI E 6 (fun j => g j 8)), (ra 11, aI E 6 (up wk k (-1))), (ra 26, aI E 200 lt), (ra 27, aI E 200 bo), (ra 28, aI E 200 wg)]) 4 dX7_finishes_51 rfl rfl (by decide) (by omega) (by omega) ?_
      refine g_aload_n 0 dX7_finishes_52 rfl rfl ?_
      refine g_get (C := RX7) (T := TX7) (N := 43) 0 13 (fun _ h => List.mem_cons_of_mem _ (List.mem_append_right _ h)) (List.mem_of_getElem? (i := 5) rfl) rfl rfl (by decide) rfl rfl dX7_finishes_53 ?_
      refine g_iload_n 1 dX7_finishes_56 rfl rfl ?_
      refine g_aload_n 0 dX7_finishes_57 rfl rfl ?_
      refine g_get (C := RX7) (T := TX7) (N := 43) 0 12 (fun _ h => List.mem_cons_of_mem _ (List.mem_append_right _ h)) (List.mem_of_getElem? (i := 6) rfl) rfl rfl (by decide) rfl rfl dX7_finishes_58 ?_
      refine g_iload_n 1 dX7_finishes_61 rfl rfl ?_
      refine g_iald 6 dX7_finishes_62 rfl (by decide) (by omega) (by omega) ?_
      refine g_top (y := iI (d 7)) (by rw [hd7]) ?_
      refine g_if_ne (tgt := 73) (by unfold R32; omega) dX7_finishes_63 rfl (fun hw0 => ?_) (fun hw0 => ?_)
      · refine g_aload_n 0 dX7_finishes_66 rfl rfl ?_
        refine g_get (C := RX7) (T := TX7) (N := 43) 0 18 (fun _ h => List.mem_cons_of_mem _ (List.mem_append_right _ h)) (List.mem_of_getElem? (i := 7) rfl) rfl rfl (by decide) rfl rfl dX7_finishes_67 ?_
        refine g_goto (tgt := 79) dX7_finishes_70 rfl ?_
        refine g_iast (ws1 := [(m0, oo 7 (fMo ra mm nf ti so ta go sl lo cn lx ly pm pi)), (ra 2, aI E 6 (fun j => S j 1)), (ra 3, aI E 6 (fun j => S j 2)), (ra 7, aI E 6 (up (fun j => g j 4) k ((d 4) + 1))), (ra 8, aI E 6 (up (fun j => g j 5) k ((d 5) + 1))), (ra 9, aI E 6 (fun j => g j 6)), (ra 12, aI E 6 (fun j => g j 7)), (ra 13, aI E 6 (up (fun j => g j 8) k ti)), (ra 11, aI E 6 (up wk k (-1))), (ra 26, aI E 200 lt), (ra 27, aI E 200 bo), (ra 28, aI E 200 wg)]) 7 dX7_finishes_79 rfl rfl (by decide) (by omega) (by omega) ?_
        refine g_aload_n 0 dX7_finishes_80 rfl rfl ?_
        refine g_get (C := RX7) (T := TX7) (N := 43) 0 12 (fun _ h => List.mem_cons_of_mem _ (List.mem_append_right _ h)) (List.mem_of_getElem? (i := 6) rfl) rfl rfl (by decide) rfl rfl dX7_finishes_81 ?_
        refine g_iload_n 1 dX7_finishes_84 rfl rfl ?_
        refine g_dup2 dX7_finishes_85 rfl rfl ?_
        refine g_iald 6 dX7_finishes_86 rfl (by decide) (by omega) (by omega) ?_
        refine g_top (y := iI (d 7)) (by rw [hd7]) ?_
        refine g_iconst dX7_finishes_87 ?_
        refine g_iadd dX7_finishes_88 ?_
        refine g_iast (ws1 := [(m0, oo 7 (fMo ra mm nf ti so ta go sl lo cn lx ly pm pi)), (ra 2, aI E 6 (fun j => S j 1)), (ra 3, aI E 6 (fun j => S j 2)), (ra 7, aI E 6 (up (fun j => g j 4) k ((d 4) + 1))), (ra 8, aI E 6 (up (fun j => g j 5) k ((d 5) + 1))), (ra 9, aI E 6 (fun j => g j 6)), (ra 12, aI E 6 (up (fun j => g j 7) k ((d 7) + 1))), (ra 13, aI E 6 (up (fun j => g j 8) k ti)), (ra 11, aI E 6 (up wk k (-1))), (ra 26, aI E 200 lt), (ra 27, aI E 200 bo), (ra 28, aI E 200 wg)]) 6 dX7_finishes_89 rfl rfl (by decide) (by omega) (by omega) ?_
        refine g_goto (tgt := 217) dX7_finishes_90 rfl ?_
        have hU_30 : up (fun j => g j 6) k (d 6) = (fun j => g j 6) := up_same (by rw [hd6])
        refine g_as (ws1 := [(m0, oo 7 (fMo ra mm nf ti so ta go sl lo cn lx ly pm pi)), (ra 2, aI E 6 (fun j => S j 1)), (ra 3, aI E 6 (fun j => S j 2)), (ra 7, aI E 6 (up (fun j => g j 4) k ((d 4) + 1))), (ra 8, aI E 6 (up (fun j => g j 5) k ((d 5) + 1))), (ra 9, aI E 6 (up (fun j => g j 6) k (d 6))), (ra 12, aI E 6 (up (fun j => g j 7) k ((d 7) + 1))), (ra 13, aI E 6 (up (fun j => g j 8) k ti)), (ra 11, aI E 6 (up wk k (-1))), (ra 26, aI E 200 lt), (ra 27, aI E 200 bo), (ra 28, aI E 200 wg)]) ?_ (by rw [hU_30]) rfl rfl
        exact g_vret hRet dX7_finishes_217 ⟨(up (up (up (up (up (up d 1 0) 3 0) 4 (d 4 + 1)) 5 (d 5 + 1)) 8 (if d 7 = 0 then ti else d 8)) 7 (d 7 + 1)), 0, (by unfold sOk at hs; unfold sEnd; first | (rw [if_pos ⟨by omega, by assumption⟩]; first | (rw [if_pos hw0]; exact ⟨rfl, rfl⟩) | (rw [if_neg hw0]; exact ⟨rfl, rfl⟩)) | (rw [if_neg (fun q => by first | (exact absurd q.2 (by assumption)) | (exact absurd q.1 (by omega)))]; first | (rw [if_pos ⟨by omega, by assumption⟩]; exact ⟨rfl, rfl⟩) | (rw [if_neg (fun q => by first | (exact absurd q.2 (by assumption)) | (exact absurd q.1 (by omega)))]; first | (rw [if_pos hl]; exact ⟨rfl, rfl⟩) | (rw [if_neg hl]; exact ⟨rfl, rfl⟩)))), (by refine ⟨?_, by omega⟩; unfold wkOf; simp [up, hd2]), (by simp [up, hd2, hw0])⟩
      · refine g_aload_n 0 dX7_finishes_73 rfl rfl ?_
        refine g_get (C := RX7) (T := TX7) (N := 43) 0 13 (fun _ h => List.mem_cons_of_mem _ (List.mem_append_right _ h)) (List.mem_of_getElem? (i := 5) rfl) rfl rfl (by decide) rfl rfl dX7_finishes_74 ?_
        refine g_iload_n 1 dX7_finishes_77 rfl rfl ?_
        refine g_iald 7 dX7_finishes_78 rfl (by decide) (by omega) (by omega) ?_
        refine g_top (y := iI (d 8)) (by rw [hd8]) ?_
        refine g_iast (ws1 := [(m0, oo 7 (fMo ra mm nf ti so ta go sl lo cn lx ly pm pi)), (ra 2, aI E 6 (fun j => S j 1)), (ra 3, aI E 6 (fun j => S j 2)), (ra 7, aI E 6 (up (fun j => g j 4) k ((d 4) + 1))), (ra 8, aI E 6 (up (fun j => g j 5) k ((d 5) + 1))), (ra 9, aI E 6 (fun j => g j 6)), (ra 12, aI E 6 (fun j => g j 7)), (ra 13, aI E 6 (up (fun j => g j 8) k (d 8))), (ra 11, aI E 6 (up wk k (-1))), (ra 26, aI E 200 lt), (ra 27, aI E 200 bo), (ra 28, aI E 200 wg)]) 7 dX7_finishes_79 rfl rfl (by decide) (by omega) (by omega) ?_
        refine g_aload_n 0 dX7_finishes_80 rfl rfl ?_
        refine g_get (C := RX7) (T := TX7) (N := 43) 0 12 (fun _ h => List.mem_cons_of_mem _ (List.mem_append_right _ h)) (List.mem_of_getElem? (i := 6) rfl) rfl rfl (by decide) rfl rfl dX7_finishes_81 ?_
        refine g_iload_n 1 dX7_finishes_84 rfl rfl ?_
        refine g_dup2 dX7_finishes_85 rfl rfl ?_
        refine g_iald 6 dX7_finishes_86 rfl (by decide) (by omega) (by omega) ?_
        refine g_top (y := iI (d 7)) (by rw [hd7]) ?_
        refine g_iconst dX7_finishes_87 ?_
        refine g_iadd dX7_finishes_88 ?_
        refine g_iast (ws1 := [(m0, oo 7 (fMo ra mm nf ti so ta go sl lo cn lx ly pm pi)), (ra 2, aI E 6 (fun j => S j 1)), (ra 3, aI E 6 (fun j => S j 2)), (ra 7, aI E 6 (up (fun j => g j 4) k ((d 4) + 1))), (ra 8, aI E 6 (up (fun j => g j 5) k ((d 5) + 1))), (ra 9, aI E 6 (fun j => g j 6)), (ra 12, aI E 6 (up (fun j => g j 7) k ((d 7) + 1))), (ra 13, aI E 6 (up (fun j => g j 8) k (d 8))), (ra 11, aI E 6 (up wk k (-1))), (ra 26, aI E 200 lt), (ra 27, aI E 200 bo), (ra 28, aI E 200 wg)]) 6 dX7_finishes_89 rfl rfl (by decide) (by omega) (by omega) ?_
        refine g_goto (tgt := 217) dX7_finishes_90 rfl ?_
        have hU_31 : up (fun j => g j 6) k (d 6) = (fun j => g j 6) := up_same (by rw [hd6])
        refine g_as (ws1 := [(m0, oo 7 (fMo ra mm nf ti so ta go sl lo cn lx ly pm pi)), (ra 2, aI E 6 (fun j => S j 1)), (ra 3, aI E 6 (fun j => S j 2)), (ra 7, aI E 6 (up (fun j => g j 4) k ((d 4) + 1))), (ra 8, aI E 6 (up (fun j => g j 5) k ((d 5) + 1))), (ra 9, aI E 6 (up (fun j => g j 6) k (d 6))), (ra 12, aI E 6 (up (fun j => g j 7) k ((d 7) + 1))), (ra 13, aI E 6 (up (fun j => g j 8) k (d 8))), (ra 11, aI E 6 (up wk k (-1))), (ra 26, aI E 200 lt), (ra 27, aI E 200 bo), (ra 28, aI E 200 wg)]) ?_ (by rw [hU_31]) rfl rfl
        exact g_vret hRet dX7_finishes_217 ⟨(up (up (up (up (up (up d 1 0) 3 0) 4 (d 4 + 1)) 5 (d 5 + 1)) 8 (if d 7 = 0 then ti else d 8)) 7 (d 7 + 1)), 0, (by unfold sOk at hs; unfold sEnd; first | (rw [if_pos ⟨by omega, by assumption⟩]; first | (rw [if_pos hw0]; exact ⟨rfl, rfl⟩) | (rw [if_neg hw0]; exact ⟨rfl, rfl⟩)) | (rw [if_neg (fun q => by first | (exact absurd q.2 (by assumption)) | (exact absurd q.1 (by omega)))]; first | (rw [if_pos ⟨by omega, by assumption⟩]; exact ⟨rfl, rfl⟩) | (rw [if_neg (fun q => by first | (exact absurd q.2 (by assumption)) | (exact absurd q.1 (by omega)))]; first | (rw [if_pos hl]; exact ⟨rfl, rfl⟩) | (rw [if_neg hl]; exact ⟨rfl, rfl⟩)))), (by refine ⟨?_, by omega⟩; unfold wkOf; simp [up, hd2]), (by simp [up, hd2, hw0])⟩
    · refine g_aload_n 0 dX7_finishes_93 rfl rfl ?_
      refine g_get (C := RX7) (T := TX7) (N := 43) 0 3 (fun _ h => List.mem_cons_of_mem _ (List.mem_append_right _ h)) (List.mem_of_getElem? (i := 8) rfl) rfl rfl (by decide) rfl rfl dX7_finishes_94 ?_
      refine g_iload_n 1 dX7_finishes_97 rfl rfl ?_
      refine g_iald 2 dX7_finishes_98 rfl (by decide) (by omega) (by omega) ?_
      refine g_top (y := iI (S k 2)) rfl ?_
      refine g_if_le (tgt := 131) (by unfold sOk at hs; unfold R32; omega) dX7_finishes_99 rfl (fun hs1 => ?_) (fun hs1 => ?_)
      · refine g_iload_n 1 dX7_finishes_131 rfl rfl ?_
        refine g_aload_n 0 dX7_finishes_132 rfl rfl ?_
        refine g_get (C := RX7) (T := TX7) (N := 43) 0 0 (fun _ h => List.mem_cons_of_mem _ (List.mem_append_right _ h)) (List.mem_of_getElem? (i := 10) rfl) rfl rfl (by decide) rfl rfl dX7_finishes_133 ?_
        refine g_iconst dX7_finishes_136 ?_
        refine g_isub dX7_finishes_137 ?_
        refine g_icmp_ne (tgt := 209) (by unfold R32; omega) (by unfold R32; omega) dX7_finishes_138 rfl (fun hl => ?_) (fun hl => ?_)
        · refine g_aload_n 0 dX7_finishes_141 rfl rfl ?_
          refine g_dup dX7_finishes_142 rfl ?_
          refine g_get (C := RX7) (T := TX7) (N := 43) 0 21 (fun _ h => List.mem_cons_of_mem _ (List.mem_append_right _ h)) (List.mem_of_getElem? (i := 11) rfl) rfl rfl (by decide) rfl rfl dX7_finishes_143 ?_
          refine g_iconst dX7_finishes_146 ?_
          refine g_iadd dX7_finishes_147 ?_
          refine g_put (C := RX7) (T := TX7) (N := 43) (ws1 := [(m0, oo 7 (fMo ra mm nf ti so ta (go + 1) sl lo cn lx ly pm pi)), (ra 2, aI E 6 (fun j => S j 1)), (ra 3, aI E 6 (fun j => S j 2)), (ra 7, aI E 6 (up (fun j => g j 4) k ((d 4) + 1))), (ra 8, aI E 6 (fun j => g j 5)), (ra 9, aI E 6 (fun j => g j 6)), (ra 12, aI E 6 (fun j => g j 7)), (ra 13, aI E 6 (fun j => g j 8)), (ra 11, aI E 6 (up wk k (-1))), (ra 26, aI E 200 lt), (ra 27, aI E 200 bo), (ra 28, aI E 200 wg)]) 0 21 (fun _ h => List.mem_cons_of_mem _ (List.mem_append_right _ h)) tyX7 tyX7_ok nmX7 (List.mem_of_getElem? (i := 11) rfl) rfl rfl (by decide) rfl (tyX7_ok 21 (by decide)) rfl rfl (by first | decide | exact Nat.le_of_ble_eq_true rfl) dX7_finishes_148 rfl rfl ?_
          refine g_aload_n 0 dX7_finishes_151 rfl rfl ?_
          refine g_get (C := RX7) (T := TX7) (N := 43) 0 25 (fun _ h => List.mem_cons_of_mem _ (List.mem_append_right _ h)) (List.mem_of_getElem? (i := 12) rfl) rfl rfl (by decide) rfl rfl dX7_finishes_152 ?_
          refine g_sipush dX7_finishes_155 rfl ?_
          refine g_icmp_ge (tgt := 217) (by unfold R32; omega) (by unfold R32; omega) dX7_finishes_158 rfl (fun hc2 => ?_) (fun hc2 => ?_)
          · have hU_32 : up (fun j => g j 5) k (d 5) = (fun j => g j 5) := up_same (by rw [hd5])
            have hU_33 : up (fun j => g j 6) k (d 6) = (fun j => g j 6) := up_same (by rw [hd6])
            have hU_34 : up (fun j => g j 7) k (d 7) = (fun j => g j 7) := up_same (by rw [hd7])
            have hU_35 : up (fun j => g j 8) k (d 8) = (fun j => g j 8) := up_same (by rw [hd8])
            refine g_as (ws1 := [(m0, oo 7 (fMo ra mm nf ti so ta (go + 1) sl lo cn lx ly pm pi)), (ra 2, aI E 6 (fun j => S j 1)), (ra 3, aI E 6 (fun j => S j 2)), (ra 7, aI E 6 (up (fun j => g j 4) k ((d 4) + 1))), (ra 8, aI E 6 (up (fun j => g j 5) k (d 5))), (ra 9, aI E 6 (up (fun j => g j 6) k (d 6))), (ra 12, aI E 6 (up (fun j => g j 7) k (d 7))), (ra 13, aI E 6 (up (fun j => g j 8) k (d 8))), (ra 11, aI E 6 (up wk k (-1))), (ra 26, aI E 200 lt), (ra 27, aI E 200 bo), (ra 28, aI E 200 wg)]) ?_ (by rw [hU_32, hU_33, hU_34, hU_35]) rfl rfl
            exact g_vret hRet dX7_finishes_217 ⟨(up (up (up d 1 0) 3 0) 4 (d 4 + 1)), 1, (by unfold sOk at hs; unfold sEnd; first | (rw [if_pos ⟨by omega, by assumption⟩]; first | (rw [if_pos hw0]; exact ⟨rfl, rfl⟩) | (rw [if_neg hw0]; exact ⟨rfl, rfl⟩)) | (rw [if_neg (fun q => by first | (exact absurd q.2 (by assumption)) | (exact absurd q.1 (by omega)))]; first | (rw [if_pos ⟨by omega, by assumption⟩]; exact ⟨rfl, rfl⟩) | (rw [if_neg (fun q => by first | (exact absurd q.2 (by assumption)) | (exact absurd q.1 (by omega)))]; first | (rw [if_pos hl]; exact ⟨rfl, rfl⟩) | (rw [if_neg hl]; exact ⟨rfl, rfl⟩)))), (by refine ⟨?_, by omega⟩; unfold wkOf; simp [up, hd2]), (by first | (have hz : cn < 200 := (by omega); simp [up, hd2, hz]; done) | (have hz : ¬ cn < 200 := (by omega); simp [up, hd2, hz]; done))⟩
          · refine g_aload_n 0 dX7_finishes_161 rfl rfl ?_
            refine g_get (C := RX7) (T := TX7) (N := 43) 0 26 (fun _ h => List.mem_cons_of_mem _ (List.mem_append_right _ h)) (List.mem_of_getElem? (i := 13) rfl) rfl rfl (by decide) rfl rfl dX7_finishes_162 ?_
            refine g_aload_n 0 dX7_finishes_165 rfl rfl ?_
            refine g_get (C := RX7) (T := TX7) (N := 43) 0 25 (fun _ h => List.mem_cons_of_mem _ (List.mem_append_right _ h)) (List.mem_of_getElem? (i := 12) rfl) rfl rfl (by decide) rfl rfl dX7_finishes_166 ?_
            refine g_aload_n 0 dX7_finishes_169 rfl rfl ?_
            refine g_get (C := RX7) (T := TX7) (N := 43) 0 24 (fun _ h => List.mem_cons_of_mem _ (List.mem_append_right _ h)) (List.mem_of_getElem? (i := 14) rfl) rfl rfl (by decide) rfl rfl dX7_finishes_170 ?_
            refine g_iast (ws1 := [(m0, oo 7 (fMo ra mm nf ti so ta (go + 1) sl lo cn lx ly pm pi)), (ra 2, aI E 6 (fun j => S j 1)), (ra 3, aI E 6 (fun j => S j 2)), (ra 7, aI E 6 (up (fun j => g j 4) k ((d 4) + 1))), (ra 8, aI E 6 (fun j => g j 5)), (ra 9, aI E 6 (fun j => g j 6)), (ra 12, aI E 6 (fun j => g j 7)), (ra 13, aI E 6 (fun j => g j 8)), (ra 11, aI E 6 (up wk k (-1))), (ra 26, aI E 200 (up lt cn lo)), (ra 27, aI E 200 bo), (ra 28, aI E 200 wg)]) 9 dX7_finishes_173 rfl rfl (by decide) (by omega) (by omega) ?_
            refine g_aload_n 0 dX7_finishes_174 rfl rfl ?_
            refine g_get (C := RX7) (T := TX7) (N := 43) 0 27 (fun _ h => List.mem_cons_of_mem _ (List.mem_append_right _ h)) (List.mem_of_getElem? (i := 15) rfl) rfl rfl (by decide) rfl rfl dX7_finishes_175 ?_
            refine g_aload_n 0 dX7_finishes_178 rfl rfl ?_
            refine g_get (C := RX7) (T := TX7) (N := 43) 0 25 (fun _ h => List.mem_cons_of_mem _ (List.mem_append_right _ h)) (List.mem_of_getElem? (i := 12) rfl) rfl rfl (by decide) rfl rfl dX7_finishes_179 ?_
            refine g_bipush dX7_finishes_182 rfl ?_
            refine g_iast (ws1 := [(m0, oo 7 (fMo ra mm nf ti so ta (go + 1) sl lo cn lx ly pm pi)), (ra 2, aI E 6 (fun j => S j 1)), (ra 3, aI E 6 (fun j => S j 2)), (ra 7, aI E 6 (up (fun j => g j 4) k ((d 4) + 1))), (ra 8, aI E 6 (fun j => g j 5)), (ra 9, aI E 6 (fun j => g j 6)), (ra 12, aI E 6 (fun j => g j 7)), (ra 13, aI E 6 (fun j => g j 8)), (ra 11, aI E 6 (up wk k (-1))), (ra 26, aI E 200 (up lt cn lo)), (ra 27, aI E 200 (up bo cn (-4))), (ra 28, aI E 200 wg)]) 10 dX7_finishes_184 rfl rfl (by decide) (by omega) (by omega) ?_
            refine g_aload_n 0 dX7_finishes_185 rfl rfl ?_
            refine g_get (C := RX7) (T := TX7) (N := 43) 0 28 (fun _ h => List.mem_cons_of_mem _ (List.mem_append_right _ h)) (List.mem_of_getElem? (i := 16) rfl) rfl rfl (by decide) rfl rfl dX7_finishes_186 ?_
            refine g_aload_n 0 dX7_finishes_189 rfl rfl ?_
            refine g_get (C := RX7) (T := TX7) (N := 43) 0 25 (fun _ h => List.mem_cons_of_mem _ (List.mem_append_right _ h)) (List.mem_of_getElem? (i := 12) rfl) rfl rfl (by decide) rfl rfl dX7_finishes_190 ?_
            refine g_bipush dX7_finishes_193 rfl ?_
            refine g_iast (ws1 := [(m0, oo 7 (fMo ra mm nf ti so ta (go + 1) sl lo cn lx ly pm pi)), (ra 2, aI E 6 (fun j => S j 1)), (ra 3, aI E 6 (fun j => S j 2)), (ra 7, aI E 6 (up (fun j => g j 4) k ((d 4) + 1))), (ra 8, aI E 6 (fun j => g j 5)), (ra 9, aI E 6 (fun j => g j 6)), (ra 12, aI E 6 (fun j => g j 7)), (ra 13, aI E 6 (fun j => g j 8)), (ra 11, aI E 6 (up wk k (-1))), (ra 26, aI E 200 (up lt cn lo)), (ra 27, aI E 200 (up bo cn (-4))), (ra 28, aI E 200 (up wg cn (-4)))]) 11 dX7_finishes_195 rfl rfl (by decide) (by omega) (by omega) ?_
            refine g_aload_n 0 dX7_finishes_196 rfl rfl ?_
            refine g_dup dX7_finishes_197 rfl ?_
            refine g_get (C := RX7) (T := TX7) (N := 43) 0 25 (fun _ h => List.mem_cons_of_mem _ (List.mem_append_right _ h)) (List.mem_of_getElem? (i := 12) rfl) rfl rfl (by decide) rfl rfl dX7_finishes_198 ?_
            refine g_iconst dX7_finishes_201 ?_
            refine g_iadd dX7_finishes_202 ?_
            refine g_put (C := RX7) (T := TX7) (N := 43) (ws1 := [(m0, oo 7 (fMo ra mm nf ti so ta (go + 1) sl lo (cn + 1) lx ly pm pi)), (ra 2, aI E 6 (fun j => S j 1)), (ra 3, aI E 6 (fun j => S j 2)), (ra 7, aI E 6 (up (fun j => g j 4) k ((d 4) + 1))), (ra 8, aI E 6 (fun j => g j 5)), (ra 9, aI E 6 (fun j => g j 6)), (ra 12, aI E 6 (fun j => g j 7)), (ra 13, aI E 6 (fun j => g j 8)), (ra 11, aI E 6 (up wk k (-1))), (ra 26, aI E 200 (up lt cn lo)), (ra 27, aI E 200 (up bo cn (-4))), (ra 28, aI E 200 (up wg cn (-4)))]) 0 25 (fun _ h => List.mem_cons_of_mem _ (List.mem_append_right _ h)) tyX7 tyX7_ok nmX7 (List.mem_of_getElem? (i := 12) rfl) rfl rfl (by decide) rfl (tyX7_ok 25 (by decide)) rfl rfl (by first | decide | exact Nat.le_of_ble_eq_true rfl) dX7_finishes_203 rfl rfl ?_
            refine g_goto (tgt := 217) dX7_finishes_206 rfl ?_
            have hU_36 : up (fun j => g j 5) k (d 5) = (fun j => g j 5) := up_same (by rw [hd5])
            have hU_37 : up (fun j => g j 6) k (d 6) = (fun j => g j 6) := up_same (by rw [hd6])
            have hU_38 : up (fun j => g j 7) k (d 7) = (fun j => g j 7) := up_same (by rw [hd7])
            have hU_39 : up (fun j => g j 8) k (d 8) = (fun j => g j 8) := up_same (by rw [hd8])
            refine g_as (ws1 := [(m0, oo 7 (fMo ra mm nf ti so ta (go + 1) sl lo (cn + 1) lx ly pm pi)), (ra 2, aI E 6 (fun j => S j 1)), (ra 3, aI E 6 (fun j => S j 2)), (ra 7, aI E 6 (up (fun j => g j 4) k ((d 4) + 1))), (ra 8, aI E 6 (up (fun j => g j 5) k (d 5))), (ra 9, aI E 6 (up (fun j => g j 6) k (d 6))), (ra 12, aI E 6 (up (fun j => g j 7) k (d 7))), (ra 13, aI E 6 (up (fun j => g j 8) k (d 8))), (ra 11, aI E 6 (up wk k (-1))), (ra 26, aI E 200 (up lt cn lo)), (ra 27, aI E 200 (up bo cn (-4))), (ra 28, aI E 200 (up wg cn (-4)))]) ?_ (by rw [hU_36, hU_37, hU_38, hU_39]) rfl rfl
            exact g_vret hRet dX7_finishes_217 ⟨(up (up (up d 1 0) 3 0) 4 (d 4 + 1)), 1, (by unfold sOk at hs; unfold sEnd; first | (rw [if_pos ⟨by omega, by assumption⟩]; first | (rw [if_pos hw0]; exact ⟨rfl, rfl⟩) | (rw [if_neg hw0]; exact ⟨rfl, rfl⟩)) | (rw [if_neg (fun q => by first | (exact absurd q.2 (by assumption)) | (exact absurd q.1 (by omega)))]; first | (rw [if_pos ⟨by omega, by assumption⟩]; exact ⟨rfl, rfl⟩) | (rw [if_neg (fun q => by first | (exact absurd q.2 (by assumption)) | (exact absurd q.1 (by omega)))]; first | (rw [if_pos hl]; exact ⟨rfl, rfl⟩) | (rw [if_neg hl]; exact ⟨rfl, rfl⟩)))), (by refine ⟨?_, by omega⟩; unfold wkOf; simp [up, hd2]), (by first | (have hz : cn < 200 := (by omega); simp [up, hd2, hz]; done) | (have hz : ¬ cn < 200 := (by omega); simp [up, hd2, hz]; done))⟩
        · refine g_aload_n 0 dX7_finishes_209 rfl rfl ?_
          refine g_get (C := RX7) (T := TX7) (N := 43) 0 11 (fun _ h => List.mem_cons_of_mem _ (List.mem_append_right _ h)) (List.mem_of_getElem? (i := 1) rfl) rfl rfl (by decide) rfl rfl dX7_finishes_210 ?_
          refine g_iload_n 1 dX7_finishes_213 rfl rfl ?_
          refine g_bipush dX7_finishes_214 rfl ?_
          refine g_iast (ws1 := [(m0, oo 7 (fMo ra mm nf ti so ta go sl lo cn lx ly pm pi)), (ra 2, aI E 6 (fun j => S j 1)), (ra 3, aI E 6 (fun j => S j 2)), (ra 7, aI E 6 (up (fun j => g j 4) k ((d 4) + 1))), (ra 8, aI E 6 (fun j => g j 5)), (ra 9, aI E 6 (fun j => g j 6)), (ra 12, aI E 6 (fun j => g j 7)), (ra 13, aI E 6 (fun j => g j 8)), (ra 11, aI E 6 (up (up wk k (-1)) k 100)), (ra 26, aI E 200 lt), (ra 27, aI E 200 bo), (ra 28, aI E 200 wg)]) 8 dX7_finishes_216 rfl rfl (by decide) (by omega) (by omega) ?_
          have hU_40 : up (fun j => g j 5) k (d 5) = (fun j => g j 5) := up_same (by rw [hd5])
          have hU_41 : up (fun j => g j 6) k (d 6) = (fun j => g j 6) := up_same (by rw [hd6])
          have hU_42 : up (fun j => g j 7) k (d 7) = (fun j => g j 7) := up_same (by rw [hd7])
          have hU_43 : up (fun j => g j 8) k (d 8) = (fun j => g j 8) := up_same (by rw [hd8])
          refine g_as (ws1 := [(m0, oo 7 (fMo ra mm nf ti so ta go sl lo cn lx ly pm pi)), (ra 2, aI E 6 (fun j => S j 1)), (ra 3, aI E 6 (fun j => S j 2)), (ra 7, aI E 6 (up (fun j => g j 4) k ((d 4) + 1))), (ra 8, aI E 6 (up (fun j => g j 5) k (d 5))), (ra 9, aI E 6 (up (fun j => g j 6) k (d 6))), (ra 12, aI E 6 (up (fun j => g j 7) k (d 7))), (ra 13, aI E 6 (up (fun j => g j 8) k (d 8))), (ra 11, aI E 6 (up (up wk k (-1)) k 100)), (ra 26, aI E 200 lt), (ra 27, aI E 200 bo), (ra 28, aI E 200 wg)]) ?_ (by rw [hU_40, hU_41, hU_42, hU_43]) rfl rfl
          have hU_44 : up (up wk k (-1)) k 100 = up wk k 100 := up_up _ _ _ _
          refine g_as (ws1 := [(m0, oo 7 (fMo ra mm nf ti so ta go sl lo cn lx ly pm pi)), (ra 2, aI E 6 (fun j => S j 1)), (ra 3, aI E 6 (fun j => S j 2)), (ra 7, aI E 6 (up (fun j => g j 4) k ((d 4) + 1))), (ra 8, aI E 6 (up (fun j => g j 5) k (d 5))), (ra 9, aI E 6 (up (fun j => g j 6) k (d 6))), (ra 12, aI E 6 (up (fun j => g j 7) k (d 7))), (ra 13, aI E 6 (up (fun j => g j 8) k (d 8))), (ra 11, aI E 6 (up wk k 100)), (ra 26, aI E 200 lt), (ra 27, aI E 200 bo), (ra 28, aI E 200 wg)]) ?_ (by rw [hU_44]) rfl rfl
          exact g_vret hRet dX7_finishes_217 ⟨(up (up (up (up d 1 0) 3 0) 4 (d 4 + 1)) 2 1), 0, (by unfold sOk at hs; unfold sEnd; first | (rw [if_pos ⟨by omega, by assumption⟩]; first | (rw [if_pos hw0]; exact ⟨rfl, rfl⟩) | (rw [if_neg hw0]; exact ⟨rfl, rfl⟩)) | (rw [if_neg (fun q => by first | (exact absurd q.2 (by assumption)) | (exact absurd q.1 (by omega)))]; first | (rw [if_pos ⟨by omega, by assumption⟩]; exact ⟨rfl, rfl⟩) | (rw [if_neg (fun q => by first | (exact absurd q.2 (by assumption)) | (exact absurd q.1 (by omega)))]; first | (rw [if_pos hl]; exact ⟨rfl, rfl⟩) | (rw [if_neg hl]; exact ⟨rfl, rfl⟩)))), (by refine ⟨?_, by omega⟩; unfold wkOf; simp [up, hd2]), (by simp [up, hd2])⟩
      · refine g_aload_n 0 dX7_finishes_102 rfl rfl ?_
        refine g_get (C := RX7) (T := TX7) (N := 43) 0 7 (fun _ h => List.mem_cons_of_mem _ (List.mem_append_right _ h)) (List.mem_of_getElem? (i := 2) rfl) rfl rfl (by decide) rfl rfl dX7_finishes_103 ?_
        refine g_iload_n 1 dX7_finishes_106 rfl rfl ?_
        refine g_iald 3 dX7_finishes_107 rfl (by decide) (by omega) (by omega) ?_
        refine g_top (y := iI ((d 4) + 1)) (congrArg iI (up_s _ _ _)) ?_
        refine g_aload_n 0 dX7_finishes_108 rfl rfl ?_
        refine g_get (C := RX7) (T := TX7) (N := 43) 0 3 (fun _ h => List.mem_cons_of_mem _ (List.mem_append_right _ h)) (List.mem_of_getElem? (i := 8) rfl) rfl rfl (by decide) rfl rfl dX7_finishes_109 ?_
        refine g_iload_n 1 dX7_finishes_112 rfl rfl ?_
        refine g_iald 2 dX7_finishes_113 rfl (by decide) (by omega) (by omega) ?_
        refine g_top (y := iI (S k 2)) rfl ?_
        refine g_irem dX7_finishes_114 (by unfold sOk at hs; unfold R32; omega) ?_
        refine g_if_ne_r (tgt := 131) dX7_finishes_115 rfl (fun hs2 => ?_) (fun hs2 => ?_)
        · refine g_aload_n 0 dX7_finishes_118 rfl rfl ?_
          refine g_get (C := RX7) (T := TX7) (N := 43) 0 9 (fun _ h => List.mem_cons_of_mem _ (List.mem_append_right _ h)) (List.mem_of_getElem? (i := 9) rfl) rfl rfl (by decide) rfl rfl dX7_finishes_119 ?_
          refine g_iload_n 1 dX7_finishes_122 rfl rfl ?_
          refine g_dup2 dX7_finishes_123 rfl rfl ?_
          refine g_iald 5 dX7_finishes_124 rfl (by decide) (by omega) (by omega) ?_
          refine g_top (y := iI (d 6)) (by rw [hd6]) ?_
          refine g_iconst dX7_finishes_125 ?_
          refine g_iadd dX7_finishes_126 ?_
          refine g_iast (ws1 := [(m0, oo 7 (fMo ra mm nf ti so ta go sl lo cn lx ly pm pi)), (ra 2, aI E 6 (fun j => S j 1)), (ra 3, aI E 6 (fun j => S j 2)), (ra 7, aI E 6 (up (fun j => g j 4) k ((d 4) + 1))), (ra 8, aI E 6 (fun j => g j 5)), (ra 9, aI E 6 (up (fun j => g j 6) k ((d 6) + 1))), (ra 12, aI E 6 (fun j => g j 7)), (ra 13, aI E 6 (fun j => g j 8)), (ra 11, aI E 6 (up wk k (-1))), (ra 26, aI E 200 lt), (ra 27, aI E 200 bo), (ra 28, aI E 200 wg)]) 5 dX7_finishes_127 rfl rfl (by decide) (by omega) (by omega) ?_
          refine g_goto (tgt := 217) dX7_finishes_128 rfl ?_
          have hU_45 : up (fun j => g j 5) k (d 5) = (fun j => g j 5) := up_same (by rw [hd5])
          have hU_46 : up (fun j => g j 7) k (d 7) = (fun j => g j 7) := up_same (by rw [hd7])
          have hU_47 : up (fun j => g j 8) k (d 8) = (fun j => g j 8) := up_same (by rw [hd8])
          refine g_as (ws1 := [(m0, oo 7 (fMo ra mm nf ti so ta go sl lo cn lx ly pm pi)), (ra 2, aI E 6 (fun j => S j 1)), (ra 3, aI E 6 (fun j => S j 2)), (ra 7, aI E 6 (up (fun j => g j 4) k ((d 4) + 1))), (ra 8, aI E 6 (up (fun j => g j 5) k (d 5))), (ra 9, aI E 6 (up (fun j => g j 6) k ((d 6) + 1))), (ra 12, aI E 6 (up (fun j => g j 7) k (d 7))), (ra 13, aI E 6 (up (fun j => g j 8) k (d 8))), (ra 11, aI E 6 (up wk k (-1))), (ra 26, aI E 200 lt), (ra 27, aI E 200 bo), (ra 28, aI E 200 wg)]) ?_ (by rw [hU_45, hU_46, hU_47]) rfl rfl
          exact g_vret hRet dX7_finishes_217 ⟨(up (up (up (up d 1 0) 3 0) 4 (d 4 + 1)) 6 (d 6 + 1)), 0, (by unfold sOk at hs; unfold sEnd; first | (rw [if_pos ⟨by omega, by assumption⟩]; first | (rw [if_pos hw0]; exact ⟨rfl, rfl⟩) | (rw [if_neg hw0]; exact ⟨rfl, rfl⟩)) | (rw [if_neg (fun q => by first | (exact absurd q.2 (by assumption)) | (exact absurd q.1 (by omega)))]; first | (rw [if_pos ⟨by omega, by assumption⟩]; exact ⟨rfl, rfl⟩) | (rw [if_neg (fun q => by first | (exact absurd q.2 (by assumption)) | (exact absurd q.1 (by omega)))]; first | (rw [if_pos hl]; exact ⟨rfl, rfl⟩) | (rw [if_neg hl]; exact ⟨rfl, rfl⟩)))), (by refine ⟨?_, by omega⟩; unfold wkOf; simp [up, hd2]), (by simp [up, hd2])⟩
        · refine g_iload_n 1 dX7_finishes_131 rfl rfl ?_
          refine g_aload_n 0 dX7_finishes_132 rfl rfl ?_
          refine g_get (C := RX7) (T := TX7) (N := 43) 0 0 (fun _ h => List.mem_cons_of_mem _ (List.mem_append_right _ h)) (List.mem_of_getElem? (i := 10) rfl) rfl rfl (by decide) rfl rfl dX7_finishes_133 ?_
          refine g_iconst dX7_finishes_136 ?_
          refine g_isub dX7_finishes_137 ?_
          refine g_icmp_ne (tgt := 209) (by unfold R32; omega) (by unfold R32; omega) dX7_finishes_138 rfl (fun hl => ?_) (fun hl => ?_)
          · refine g_aload_n 0 dX7_finishes_141 rfl rfl ?_
            refine g_dup dX7_finishes_142 rfl ?_
            refine g_get (C := RX7) (T := TX7) (N := 43) 0 21 (fun _ h => List.mem_cons_of_mem _ (List.mem_append_right _ h)) (List.mem_of_getElem? (i := 11) rfl) rfl rfl (by decide) rfl rfl dX7_finishes_143 ?_
            refine g_iconst dX7_finishes_146 ?_
            refine g_iadd dX7_finishes_147 ?_
            refine g_put (C := RX7) (T := TX7) (N := 43) (ws1 := [(m0, oo 7 (fMo ra mm nf ti so ta (go + 1) sl lo cn lx ly pm pi)), (ra 2, aI E 6 (fun j => S j 1)), (ra 3, aI E 6 (fun j => S j 2)), (ra 7, aI E 6 (up (fun j => g j 4) k ((d 4) + 1))), (ra 8, aI E 6 (fun j => g j 5)), (ra 9, aI E 6 (fun j => g j 6)), (ra 12, aI E 6 (fun j => g j 7)), (ra 13, aI E 6 (fun j => g j 8)), (ra 11, aI E 6 (up wk k (-1))), (ra 26, aI E 200 lt), (ra 27, aI E 200 bo), (ra 28, aI E 200 wg)]) 0 21 (fun _ h => List.mem_cons_of_mem _ (List.mem_append_right _ h)) tyX7 tyX7_ok nmX7 (List.mem_of_getElem? (i := 11) rfl) rfl rfl (by decide) rfl (tyX7_ok 21 (by decide)) rfl rfl (by first | decide | exact Nat.le_of_ble_eq_true rfl) dX7_finishes_148 rfl rfl ?_
            refine g_aload_n 0 dX7_finishes_151 rfl rfl ?_
            refine g_get (C := RX7) (T := TX7) (N := 43) 0 25 (fun _ h => List.mem_cons_of_mem _ (List.mem_append_right _ h)) (List.mem_of_getElem? (i := 12) rfl) rfl rfl (by decide) rfl rfl dX7_finishes_152 ?_
            refine g_sipush dX7_finishes_155 rfl ?_
            refine g_icmp_ge (tgt := 217) (by unfold R32; omega) (by unfold R32; omega) dX7_finishes_158 rfl (fun hc2 => ?_) (fun hc2 => ?_)
            · have hU_48 : up (fun j => g j 5) k (d 5) = (fun j => g j 5) := up_same (by rw [hd5])
              have hU_49 : up (fun j => g j 6) k (d 6) = (fun j => g j 6) := up_same (by rw [hd6])
              have hU_50 : up (fun j => g j 7) k (d 7) = (fun j => g j 7) := up_same (by rw [hd7])
              have hU_51 : up (fun j => g j 8) k (d 8) = (fun j => g j 8) := up_same (by rw [hd8])
              refine g_as (ws1 := [(m0, oo 7 (fMo ra mm nf ti so ta (go + 1) sl lo cn lx ly pm pi)), (ra 2, aI E 6 (fun j => S j 1)), (ra 3, aI E 6 (fun j => S j 2)), (ra 7, aI E 6 (up (fun j => g j 4) k ((d 4) + 1))), (ra 8, aI E 6 (up (fun j => g j 5) k (d 5))), (ra 9, aI E 6 (up (fun j => g j 6) k (d 6))), (ra 12, aI E 6 (up (fun j => g j 7) k (d 7))), (ra 13, aI E 6 (up (fun j => g j 8) k (d 8))), (ra 11, aI E 6 (up wk k (-1))), (ra 26, aI E 200 lt), (ra 27, aI E 200 bo), (ra 28, aI E 200 wg)]) ?_ (by rw [hU_48, hU_49, hU_50, hU_51]) rfl rfl
              exact g_vret hRet dX7_finishes_217 ⟨(up (up (up d 1 0) 3 0) 4 (d 4 + 1)), 1, (by unfold sOk at hs; unfold sEnd; first | (rw [if_pos ⟨by omega, by assumption⟩]; first | (rw [if_pos hw0]; exact ⟨rfl, rfl⟩) | (rw [if_neg hw0]; exact ⟨rfl, rfl⟩)) | (rw [if_neg (fun q => by first | (exact absurd q.2 (by assumption)) | (exact absurd q.1 (by omega)))]; first | (rw [if_pos ⟨by omega, by assumption⟩]; exact ⟨rfl, rfl⟩) | (rw [if_neg (fun q => by first | (exact absurd q.2 (by assumption)) | (exact absurd q.1 (by omega)))]; first | (rw [if_pos hl]; exact ⟨rfl, rfl⟩) | (rw [if_neg hl]; exact ⟨rfl, rfl⟩)))), (by refine ⟨?_, by omega⟩; unfold wkOf; simp [up, hd2]), (by first | (have hz : cn < 200 := (by omega); simp [up, hd2, hz]; done) | (have hz : ¬ cn < 200 := (by omega); simp [up, hd2, hz]; done))⟩
            · refine g_aload_n 0 dX7_finishes_161 rfl rfl ?_
              refine g_get (C := RX7) (T := TX7) (N := 43) 0 26 (fun _ h => List.mem_cons_of_mem _ (List.mem_append_right _ h)) (List.mem_of_getElem? (i := 13) rfl) rfl rfl (by decide) rfl rfl dX7_finishes_162 ?_
              refine g_aload_n 0 dX7_finishes_165 rfl rfl ?_
              refine g_get (C := RX7) (T := TX7) (N := 43) 0 25 (fun _ h => List.mem_cons_of_mem _ (List.mem_append_right _ h)) (List.mem_of_getElem? (i := 12) rfl) rfl rfl (by decide) rfl rfl dX7_finishes_166 ?_
              refine g_aload_n 0 dX7_finishes_169 rfl rfl ?_
              refine g_get (C := RX7) (T := TX7) (N := 43) 0 24 (fun _ h => List.mem_cons_of_mem _ (List.mem_append_right _ h)) (List.mem_of_getElem? (i := 14) rfl) rfl rfl (by decide) rfl rfl dX7_finishes_170 ?_
              refine g_iast (ws1 := [(m0, oo 7 (fMo ra mm nf ti so ta (go + 1) sl lo cn lx ly pm pi)), (ra 2, aI E 6 (fun j => S j 1)), (ra 3, aI E 6 (fun j => S j 2)), (ra 7, aI E 6 (up (fun j => g j 4) k ((d 4) + 1))), (ra 8, aI E 6 (fun j => g j 5)), (ra 9, aI E 6 (fun j => g j 6)), (ra 12, aI E 6 (fun j => g j 7)), (ra 13, aI E 6 (fun j => g j 8)), (ra 11, aI E 6 (up wk k (-1))), (ra 26, aI E 200 (up lt cn lo)), (ra 27, aI E 200 bo), (ra 28, aI E 200 wg)]) 9 dX7_finishes_173 rfl rfl (by decide) (by omega) (by omega) ?_
              refine g_aload_n 0 dX7_finishes_174 rfl rfl ?_
              refine g_get (C := RX7) (T := TX7) (N := 43) 0 27 (fun _ h => List.mem_cons_of_mem _ (List.mem_append_right _ h)) (List.mem_of_getElem? (i := 15) rfl) rfl rfl (by decide) rfl rfl dX7_finishes_175 ?_
              refine g_aload_n 0 dX7_finishes_178 rfl rfl ?_
              refine g_get (C := RX7) (T := TX7) (N := 43) 0 25 (fun _ h => List.mem_cons_of_mem _ (List.mem_append_right _ h)) (List.mem_of_getElem? (i := 12) rfl) rfl rfl (by decide) rfl rfl dX7_finishes_179 ?_
              refine g_bipush dX7_finishes_182 rfl ?_
              refine g_iast (ws1 := [(m0, oo 7 (fMo ra mm nf ti so ta (go + 1) sl lo cn lx ly pm pi)), (ra 2, aI E 6 (fun j => S j 1)), (ra 3, aI E 6 (fun j => S j 2)), (ra 7, aI E 6 (up (fun j => g j 4) k ((d 4) + 1))), (ra 8, aI E 6 (fun j => g j 5)), (ra 9, aI E 6 (fun j => g j 6)), (ra 12, aI E 6 (fun j => g j 7)), (ra 13, aI E 6 (fun j => g j 8)), (ra 11, aI E 6 (up wk k (-1))), (ra 26, aI E 200 (up lt cn lo)), (ra 27, aI E 200 (up bo cn (-4))), (ra 28, aI E 200 wg)]) 10 dX7_finishes_184 rfl rfl (by decide) (by omega) (by omega) ?_
              refine g_aload_n 0 dX7_finishes_185 rfl rfl ?_
              refine g_get (C := RX7) (T := TX7) (N := 43) 0 28 (fun _ h => List.mem_cons_of_mem _ (List.mem_append_right _ h)) (List.mem_of_getElem? (i := 16) rfl) rfl rfl (by decide) rfl rfl dX7_finishes_186 ?_
              refine g_aload_n 0 dX7_finishes_189 rfl rfl ?_
              refine g_get (C := RX7) (T := TX7) (N := 43) 0 25 (fun _ h => List.mem_cons_of_mem _ (List.mem_append_right _ h)) (List.mem_of_getElem? (i := 12) rfl) rfl rfl (by decide) rfl rfl dX7_finishes_190 ?_
              refine g_bipush dX7_finishes_193 rfl ?_
              refine g_iast (ws1 := [(m0, oo 7 (fMo ra mm nf ti so ta (go + 1) sl lo cn lx ly pm pi)), (ra 2, aI E 6 (fun j => S j 1)), (ra 3, aI E 6 (fun j => S j 2)), (ra 7, aI E 6 (up (fun j => g j 4) k ((d 4) + 1))), (ra 8, aI E 6 (fun j => g j 5)), (ra 9, aI E 6 (fun j => g j 6)), (ra 12, aI E 6 (fun j => g j 7)), (ra 13, aI E 6 (fun j => g j 8)), (ra 11, aI E 6 (up wk k (-1))), (ra 26, aI E 200 (up lt cn lo)), (ra 27, aI E 200 (up bo cn (-4))), (ra 28, aI E 200 (up wg cn (-4)))]) 11 dX7_finishes_195 rfl rfl (by decide) (by omega) (by omega) ?_
              refine g_aload_n 0 dX7_finishes_196 rfl rfl ?_
              refine g_dup dX7_finishes_197 rfl ?_
              refine g_get (C := RX7) (T := TX7) (N := 43) 0 25 (fun _ h => List.mem_cons_of_mem _ (List.mem_append_right _ h)) (List.mem_of_getElem? (i := 12) rfl) rfl rfl (by decide) rfl rfl dX7_finishes_198 ?_
              refine g_iconst dX7_finishes_201 ?_
              refine g_iadd dX7_finishes_202 ?_
              refine g_put (C := RX7) (T := TX7) (N := 43) (ws1 := [(m0, oo 7 (fMo ra mm nf ti so ta (go + 1) sl lo (cn + 1) lx ly pm pi)), (ra 2, aI E 6 (fun j => S j 1)), (ra 3, aI E 6 (fun j => S j 2)), (ra 7, aI E 6 (up (fun j => g j 4) k ((d 4) + 1))), (ra 8, aI E 6 (fun j => g j 5)), (ra 9, aI E 6 (fun j => g j 6)), (ra 12, aI E 6 (fun j => g j 7)), (ra 13, aI E 6 (fun j => g j 8)), (ra 11, aI E 6 (up wk k (-1))), (ra 26, aI E 200 (up lt cn lo)), (ra 27, aI E 200 (up bo cn (-4))), (ra 28, aI E 200 (up wg cn (-4)))]) 0 25 (fun _ h => List.mem_cons_of_mem _ (List.mem_append_right _ h)) tyX7 tyX7_ok nmX7 (List.mem_of_getElem? (i := 12) rfl) rfl rfl (by decide) rfl (tyX7_ok 25 (by decide)) rfl rfl (by first | decide | exact Nat.le_of_ble_eq_true rfl) dX7_finishes_203 rfl rfl ?_
              refine g_goto (tgt := 217) dX7_finishes_206 rfl ?_
              have hU_52 : up (fun j => g j 5) k (d 5) = (fun j => g j 5) := up_same (by rw [hd5])
              have hU_53 : up (fun j => g j 6) k (d 6) = (fun j => g j 6) := up_same (by rw [hd6])
              have hU_54 : up (fun j => g j 7) k (d 7) = (fun j => g j 7) := up_same (by rw [hd7])
              have hU_55 : up (fun j => g j 8) k (d 8) = (fun j => g j 8) := up_same (by rw [hd8])
              refine g_as (ws1 := [(m0, oo 7 (fMo ra mm nf ti so ta (go + 1) sl lo (cn + 1) lx ly pm pi)), (ra 2, aI E 6 (fun j => S j 1)), (ra 3, aI E 6 (fun j => S j 2)), (ra 7, aI E 6 (up (fun j => g j 4) k ((d 4) + 1))), (ra 8, aI E 6 (up (fun j => g j 5) k (d 5))), (ra 9, aI E 6 (up (fun j => g j 6) k (d 6))), (ra 12, aI E 6 (up (fun j => g j 7) k (d 7))), (ra 13, aI E 6 (up (fun j => g j 8) k (d 8))), (ra 11, aI E 6 (up wk k (-1))), (ra 26, aI E 200 (up lt cn lo)), (ra 27, aI E 200 (up bo cn (-4))), (ra 28, aI E 200 (up wg cn (-4)))]) ?_ (by rw [hU_52, hU_53, hU_54, hU_55]) rfl rfl
              exact g_vret hRet dX7_finishes_217 ⟨(up (up (up d 1 0) 3 0) 4 (d 4 + 1)), 1, (by unfold sOk at hs; unfold sEnd; first | (rw [if_pos ⟨by omega, by assumption⟩]; first | (rw [if_pos hw0]; exact ⟨rfl, rfl⟩) | (rw [if_neg hw0]; exact ⟨rfl, rfl⟩)) | (rw [if_neg (fun q => by first | (exact absurd q.2 (by assumption)) | (exact absurd q.1 (by omega)))]; first | (rw [if_pos ⟨by omega, by assumption⟩]; exact ⟨rfl, rfl⟩) | (rw [if_neg (fun q => by first | (exact absurd q.2 (by assumption)) | (exact absurd q.1 (by omega)))]; first | (rw [if_pos hl]; exact ⟨rfl, rfl⟩) | (rw [if_neg hl]; exact ⟨rfl, rfl⟩)))), (by refine ⟨?_, by omega⟩; unfold wkOf; simp [up, hd2]), (by first | (have hz : cn < 200 := (by omega); simp [up, hd2, hz]; done) | (have hz : ¬ cn < 200 := (by omega); simp [up, hd2, hz]; done))⟩
          · refine g_aload_n 0 dX7_finishes_209 rfl rfl ?_
            refine g_get (C := RX7) (T := TX7) (N := 43) 0 11 (fun _ h => List.mem_cons_of_mem _ (List.mem_append_right _ h)) (List.mem_of_getElem? (i := 1) rfl) rfl rfl (by decide) rfl rfl dX7_finishes_210 ?_
            refine g_iload_n 1 dX7_finishes_213 rfl rfl ?_
            refine g_bipush dX7_finishes_214 rfl ?_
            refine g_iast (ws1 := [(m0, oo 7 (fMo ra mm nf ti so ta go sl lo cn lx ly pm pi)), (ra 2, aI E 6 (fun j => S j 1)), (ra 3, aI E 6 (fun j => S j 2)), (ra 7, aI E 6 (up (fun j => g j 4) k ((d 4) + 1))), (ra 8, aI E 6 (fun j => g j 5)), (ra 9, aI E 6 (fun j => g j 6)), (ra 12, aI E 6 (fun j => g j 7)), (ra 13, aI E 6 (fun j => g j 8)), (ra 11, aI E 6 (up (up wk k (-1)) k 100)), (ra 26, aI E 200 lt), (ra 27, aI E 200 bo), (ra 28, aI E 200 wg)]) 8 dX7_finishes_216 rfl rfl (by decide) (by omega) (by omega) ?_
            have hU_56 : up (fun j => g j 5) k (d 5) = (fun j => g j 5) := up_same (by rw [hd5])
            have hU_57 : up (fun j => g j 6) k (d 6) = (fun j => g j 6) := up_same (by rw [hd6])
            have hU_58 : up (fun j => g j 7) k (d 7) = (fun j => g j 7) := up_same (by rw [hd7])
            have hU_59 : up (fun j => g j 8) k (d 8) = (fun j => g j 8) := up_same (by rw [hd8])
            refine g_as (ws1 := [(m0, oo 7 (fMo ra mm nf ti so ta go sl lo cn lx ly pm pi)), (ra 2, aI E 6 (fun j => S j 1)), (ra 3, aI E 6 (fun j => S j 2)), (ra 7, aI E 6 (up (fun j => g j 4) k ((d 4) + 1))), (ra 8, aI E 6 (up (fun j => g j 5) k (d 5))), (ra 9, aI E 6 (up (fun j => g j 6) k (d 6))), (ra 12, aI E 6 (up (fun j => g j 7) k (d 7))), (ra 13, aI E 6 (up (fun j => g j 8) k (d 8))), (ra 11, aI E 6 (up (up wk k (-1)) k 100)), (ra 26, aI E 200 lt), (ra 27, aI E 200 bo), (ra 28, aI E 200 wg)]) ?_ (by rw [hU_56, hU_57, hU_58, hU_59]) rfl rfl
            have hU_60 : up (up wk k (-1)) k 100 = up wk k 100 := up_up _ _ _ _
            refine g_as (ws1 := [(m0, oo 7 (fMo ra mm nf ti so ta go sl lo cn lx ly pm pi)), (ra 2, aI E 6 (fun j => S j 1)), (ra 3, aI E 6 (fun j => S j 2)), (ra 7, aI E 6 (up (fun j => g j 4) k ((d 4) + 1))), (ra 8, aI E 6 (up (fun j => g j 5) k (d 5))), (ra 9, aI E 6 (up (fun j => g j 6) k (d 6))), (ra 12, aI E 6 (up (fun j => g j 7) k (d 7))), (ra 13, aI E 6 (up (fun j => g j 8) k (d 8))), (ra 11, aI E 6 (up wk k 100)), (ra 26, aI E 200 lt), (ra 27, aI E 200 bo), (ra 28, aI E 200 wg)]) ?_ (by rw [hU_60]) rfl rfl
            exact g_vret hRet dX7_finishes_217 ⟨(up (up (up (up d 1 0) 3 0) 4 (d 4 + 1)) 2 1), 0, (by unfold sOk at hs; unfold sEnd; first | (rw [if_pos ⟨by omega, by assumption⟩]; first | (rw [if_pos hw0]; exact ⟨rfl, rfl⟩) | (rw [if_neg hw0]; exact ⟨rfl, rfl⟩)) | (rw [if_neg (fun q => by first | (exact absurd q.2 (by assumption)) | (exact absurd q.1 (by omega)))]; first | (rw [if_pos ⟨by omega, by assumption⟩]; exact ⟨rfl, rfl⟩) | (rw [if_neg (fun q => by first | (exact absurd q.2 (by assumption)) | (exact absurd q.1 (by omega)))]; first | (rw [if_pos hl]; exact ⟨rfl, rfl⟩) | (rw [if_neg hl]; exact ⟨rfl, rfl⟩)))), (by refine ⟨?_, by omega⟩; unfold wkOf; simp [up, hd2]), (by simp [up, hd2])⟩

theorem colS {g : Int → Int → Int} {k f v : Int} (h : v = g k f) : (fun j => g j f) = up (fun j => g j f) k v := by rw [h]; exact (up_id (fun j => g j f) k).symm
theorem wk_d {t : Int} {c : Int → Int} (h : kOk t c) : (c 2 = 1 → wkOf c = 100) ∧ (c 2 = 0 → c 1 = 1 → wkOf c = c 3) ∧ (c 2 = 0 → c 1 = 0 → wkOf c = -1) ∧ (c 2 = 0 ∨ c 2 = 1) ∧ (c 1 = 0 ∨ c 1 = 1) ∧ 0 ≤ c 3 ∧ c 3 ≤ 4 ∧ (c 1 = 1 ∨ c 3 = 0) ∧ (c 1 = 0 ∨ c 2 = 0) := by
  unfold kOk mOk at h
  unfold wkOf
  refine ⟨fun e => by rw [if_pos (by omega)], fun e e2 => by rw [if_neg (by omega), if_pos (by omega)], fun e e2 => by rw [if_neg (by omega), if_neg (by omega)], by omega, by omega, by omega, by omega, by omega, by omega⟩
theorem wk_g {t : Int} {c : Int → Int} (h : kOk t c) : wkOf (give1 c) = if c 1 = 1 then c 3 else -1 := by
  unfold kOk mOk at h
  unfold wkOf
  rw [give1_2, if_neg (by omega), give1_o c 1 (by omega) (by omega), give1_o c 3 (by omega) (by omega)]
  by_cases e : c 1 = 1
  · rw [if_pos (by omega), if_pos e]
  · rw [if_neg (by omega), if_neg e]
theorem wk_w {t : Int} {c : Int → Int} (h : kOk t c) : wkOf (work1 c) = c 3 + 1 := by
  unfold kOk mOk at h
  unfold wkOf
  rw [work1_o c 2 (by omega) (by omega), give1_2, if_neg (by omega), work1_1, work1_3, if_pos (by split <;> omega)]
def gapN (g : Int → Int → Int) (k : Int) (c' : Int → Int) (tk : Int) : Int → Int := if k = 0 then up (fun j => g j 0) k (c' 0) else up (up (fun j => g j 0) k (c' 0)) (k - 1) (if tk = 0 then g (k - 1) 0 else g (k - 1) 0 - 1)
theorem gapN_id {g : Int → Int → Int} {k : Int} {c' : Int → Int} (h : c' 0 = g k 0) : (fun j => g j 0) = gapN g k c' 0 := by
  unfold gapN
  rw [h]
  have e : up (fun j => g j 0) k (g k 0) = (fun j => g j 0) := up_id (fun j => g j 0) k
  rw [e]
  split
  · rfl
  · rw [if_pos rfl]; exact (up_id (fun j => g j 0) (k - 1)).symm
theorem gapN_tk {g : Int → Int → Int} {k w : Int} {c' : Int → Int} : (if k = 0 then up (fun j => g j 0) k (c' 0) else up (up (fun j => g j 0) k (c' 0)) (k - 1) (if w = 0 then up (fun j => g j 0) k (c' 0) (k - 1) else up (fun j => g j 0) k (c' 0) (k - 1) - 1)) = gapN g k c' w := by
  unfold gapN
  rw [up_n (fun j => g j 0) (c' 0) (show k - 1 ≠ k by omega)]
theorem gapN_0 {g : Int → Int → Int} {k : Int} {c' : Int → Int} : up (fun j => g j 0) k (c' 0) = gapN g k c' 0 := by
  unfold gapN
  split
  · rfl
  · rw [if_pos rfl]
    have e : up (fun j => g j 0) k (c' 0) (k - 1) = g (k - 1) 0 := up_n (fun j => g j 0) (c' 0) (show k - 1 ≠ k by omega)
    rw [← e]; exact (up_id _ (k - 1)).symm
theorem gapN_c {g : Int → Int → Int} {k tk : Int} {c c' : Int → Int} (h : c' 0 = c 0) : gapN g k c tk = gapN g k c' tk := by unfold gapN; rw [h]

set_option maxHeartbeats 4000000 in
set_option maxRecDepth 100000 in
theorem c_X7_steps (E : Ev) (m0 : Nat) (ra : Nat → Nat) (mm : Int) (nf : Int) (ti : Int) (so : Int) (ta : Int) (go : Int) (sl : Int) (lo : Int) (cn : Int) (lx : Int) (ly : Int) (pm : Int) (pi : Int) (g : Int → Int → Int) (S : Int → Int → Int) (fm : Int → Int) (fa : Int → Int) (fb : Int → Int) (lt : Int → Int) (bo : Int → Int) (wg : Int → Int) (k : Int) (hM : 2 ≤ mm ∧ mm ≤ 6) (hti : 0 ≤ ti ∧ ti ≤ 10000) (hso : 0 ≤ so ∧ so ≤ 100000) (hgo : 0 ≤ go ∧ go ≤ 20000) (hcn : 0 ≤ cn ∧ cn ≤ 200) (hlo : 0 ≤ lo ∧ lo ≤ 15) (hnf : 0 ≤ nf ∧ nf ≤ 8) (hfm : ∀ k, 0 ≤ fm k ∧ fm k ≤ 5) (hfa : ∀ k, 0 ≤ fa k ∧ fa k ≤ 9999) (hfb : ∀ k, 0 ≤ fb k ∧ fb k ≤ 9999) (hk : 0 ≤ k ∧ k ≤ 5) (hc : kOk ti (g k)) (hs : sOk (S k)) (hgr : ∀ j, 0 ≤ j → j < 6 → 0 ≤ g j 0 ∧ g j 0 ≤ 20) (hgs : g k 0 ≤ S k 3) : MI yX7_steps wsX7_steps ({ frames := 2, cells := 0, slots := 0, locals := 45 } : Room) E [] 0 0 [.ref m0, .int (iI k)] [(m0, oo 7 (fMo ra mm nf ti so ta go sl lo cn lx ly pm pi)), (ra 15, aI E 8 fm), (ra 16, aI E 8 fa), (ra 17, aI E 8 fb), (ra 12, aI E 6 (fun j => g j 7)), (ra 13, aI E 6 (fun j => g j 8)), (ra 11, aI E 6 (fun j => wkOf (g j))), (ra 5, aI E 6 (fun j => g j 0)), (ra 4, aI E 6 (fun j => S j 3)), (ra 1, aI E 6 (fun j => S j 0)), (ra 2, aI E 6 (fun j => S j 1)), (ra 3, aI E 6 (fun j => S j 2)), (ra 7, aI E 6 (fun j => g j 4)), (ra 8, aI E 6 (fun j => g j 5)), (ra 9, aI E 6 (fun j => g j 6)), (ra 10, aI E 6 (fun j => g j 10)), (ra 26, aI E 200 lt), (ra 27, aI E 200 bo), (ra 28, aI E 200 wg)] (fun r u => ∃ (x : Int), ∃ (c' : Int → Int), ∃ (tk : Int), ∃ (gd : Int), ∃ (so' : Int), ∃ (ta' : Int), ∃ (gp' : Int → Int), ∃ (wk' : Int → Int), ∃ (fi' : Int → Int), ∃ (re' : Int → Int), ∃ (sm' : Int → Int), ∃ (wa' : Int → Int), ∃ (fr' : Int → Int), ∃ (rn' : Int → Int), sStep (fl fm fa fb k ti nf) k mm ti (if k = 0 then so else g (k - 1) 0) (S k) (g k) x c' tk gd ∧ (so' = (if k = 0 then (if tk = 0 then so else so - 1) else so) ∧ ta' = (if k = 0 then (if tk = 0 then ta else ta + 1) else ta)) ∧ gp' = gapN g k c' tk ∧ wk' = up (fun j => wkOf (g j)) k (wkOf c') ∧ (fi' = up (fun j => g j 4) k (c' 4) ∧ re' = up (fun j => g j 5) k (c' 5) ∧ sm' = up (fun j => g j 6) k (c' 6) ∧ wa' = up (fun j => g j 7) k (c' 7) ∧ fr' = up (fun j => g j 8) k (c' 8)) ∧ rn' = up (fun j => g j 10) k (if x = 3 then c' 10 + 1 else c' 10) ∧ (gd = 0 ∨ gd = 1) ∧ r = iI x ∧ (u = [(m0, oo 7 (fMo ra mm nf ti so' ta' (if gd = 0 then go else go + 1) sl lo (if gd = 1 ∧ cn < 200 then cn + 1 else cn) lx ly pm pi)), (ra 15, aI E 8 fm), (ra 16, aI E 8 fa), (ra 17, aI E 8 fb), (ra 12, aI E 6 wa'), (ra 13, aI E 6 fr'), (ra 11, aI E 6 wk'), (ra 5, aI E 6 gp'), (ra 4, aI E 6 (fun j => S j 3)), (ra 1, aI E 6 (fun j => S j 0)), (ra 2, aI E 6 (fun j => S j 1)), (ra 3, aI E 6 (fun j => S j 2)), (ra 7, aI E 6 fi'), (ra 8, aI E 6 re'), (ra 9, aI E 6 sm'), (ra 10, aI E 6 rn'), (ra 26, aI E 200 (if gd = 1 ∧ cn < 200 then up lt cn lo else lt)), (ra 27, aI E 200 (if gd = 1 ∧ cn < 200 then up bo cn (-4) else bo)), (ra 28, aI E 200 (if gd = 1 ∧ cn < 200 then up wg cn (-4) else wg))])) := by
  refine MI.of (cc := cX7_steps) (maxL := 2) (own := RX7) (by decide) rfl rfl rfl (Nat.le_of_ble_eq_true rfl) [(0, .ref m0), (1, .int (iI k))] rfl ?_
  intro X hin2 hRet
  have hW := wk_d hc
  have hcc := hc
  unfold kOk mOk at hcc
  have hsc := hs
  unfold sOk at hsc
  refine g_aload_n 0 dX7_steps_0 rfl rfl ?_
  refine g_iload_n 1 dX7_steps_1 rfl rfl ?_
  refine g_callV_i (n := 1) (As := [.int (iI k)]) (wr := [(ra 12, aI E 6 (fun j => g j 7)), (ra 13, aI E 6 (fun j => g j 8)), (ra 11, aI E 6 (fun j => wkOf (g j))), (ra 5, aI E 6 (fun j => g j 0)), (ra 4, aI E 6 (fun j => S j 3)), (ra 1, aI E 6 (fun j => S j 0)), (ra 2, aI E 6 (fun j => S j 1)), (ra 3, aI E 6 (fun j => S j 2)), (ra 7, aI E 6 (fun j => g j 4)), (ra 8, aI E 6 (fun j => g j 5)), (ra 9, aI E 6 (fun j => g j 6)), (ra 10, aI E 6 (fun j => g j 10)), (ra 26, aI E 200 lt), (ra 27, aI E 200 bo), (ra 28, aI E 200 wg)]) (C := RX7) [] (c_X7_isFaulty E m0 ra mm nf ti so ta go sl lo cn lx ly pm pi fm fa fb k (by omega) (by omega) (by omega) (by omega) (by omega) (by omega) (by omega) (by exact hfm) (by exact hfa) (by exact hfb) (by omega)) [0, 1, 2, 3] [4, 5, 6, 7, 8, 9, 10, 11, 12, 13, 14, 15, 16, 17, 18] 0 rfl rfl gX7_steps_X7_isFaulty rfl ⟨rfl, by decide +kernel⟩ ⟨by decide, by decide⟩ rfl rfl rfl rfl rfl (by decide) rfl (by decide) (by decide) (fun _ h => absurd h List.not_mem_nil) dX7_steps_2 rfl (Nat.le_of_ble_eq_true rfl) ⟨by decide, by decide⟩ (fun r u p_1 => ?_)
  obtain ⟨rfl, rfl⟩ := p_1
  refine g_perm (ws1 := [(m0, oo 7 (fMo ra mm nf ti so ta go sl lo cn lx ly pm pi)), (ra 15, aI E 8 fm), (ra 16, aI E 8 fa), (ra 17, aI E 8 fb), (ra 12, aI E 6 (fun j => g j 7)), (ra 13, aI E 6 (fun j => g j 8)), (ra 11, aI E 6 (fun j => wkOf (g j))), (ra 5, aI E 6 (fun j => g j 0)), (ra 4, aI E 6 (fun j => S j 3)), (ra 1, aI E 6 (fun j => S j 0)), (ra 2, aI E 6 (fun j => S j 1)), (ra 3, aI E 6 (fun j => S j 2)), (ra 7, aI E 6 (fun j => g j 4)), (ra 8, aI E 6 (fun j => g j 5)), (ra 9, aI E 6 (fun j => g j 6)), (ra 10, aI E 6 (fun j => g j 10)), (ra 26, aI E 200 lt), (ra 27, aI E 200 bo), (ra 28, aI E 200 wg)]) [15, 16, 17, 18, 0, 1, 2, 3, 4, 5, 6, 7, 8, 9, 10, 11, 12, 13, 14] rfl (by decide) rfl ?_
  refine g_if_eq_b (tgt := 10) dX7_steps_5 rfl (fun hflt => ?_) (fun hflt => ?_)
  · refine g_iconst dX7_steps_8 ?_
    exact g_iret hRet dX7_steps_9 rfl ⟨0, (g k), 0, 0, so, ta, (fun j => g j 0), (fun j => wkOf (g j)), (fun j => g j 4), (fun j => g j 5), (fun j => g j 6), (fun j => g j 7), (fun j => g j 8), (fun j => g j 10), (by unfold sStep; rw [if_pos hflt]; exact ⟨rfl, rfl, rfl, rfl⟩), (by constructor <;> (split <;> rfl)), (by exact gapN_id rfl), (by exact (up_id (fun j => wkOf (g j)) k).symm), (by exact ⟨colS rfl, colS rfl, colS rfl, colS rfl, colS rfl⟩), (by rw [if_neg (by omega)]; exact colS rfl), (by omega), rfl, rfl⟩
  · refine g_aload_n 0 dX7_steps_10 rfl rfl ?_
    refine g_get (C := RX7) (T := TX7) (N := 43) 0 12 (fun _ h => List.mem_cons_of_mem _ (List.mem_append_right _ h)) (List.mem_of_getElem? (i := 1) rfl) rfl rfl (by decide) rfl rfl dX7_steps_11 ?_
    refine g_iload_n 1 dX7_steps_14 rfl rfl ?_
    refine g_iald 4 dX7_steps_15 rfl (by decide) (by omega) (by omega) ?_
    refine g_top (y := iI (g k 7)) rfl ?_
    refine g_if_le (tgt := 36) (by unfold R32; omega) dX7_steps_16 rfl (fun c_2 => ?_) (fun c_2 => ?_)
    · refine g_aload_n 0 dX7_steps_36 rfl rfl ?_
      refine g_get (C := RX7) (T := TX7) (N := 43) 0 11 (fun _ h => List.mem_cons_of_mem _ (List.mem_append_right _ h)) (List.mem_of_getElem? (i := 4) rfl) rfl rfl (by decide) rfl rfl dX7_steps_37 ?_
      refine g_iload_n 1 dX7_steps_40 rfl rfl ?_
      refine g_iald 6 dX7_steps_41 rfl (by decide) (by omega) (by omega) ?_
      refine g_top (y := iI (wkOf (g k))) rfl ?_
      refine g_bipush dX7_steps_42 rfl ?_
      refine g_icmp_ne (tgt := 81) (by unfold R32; omega) (by unfold R32; omega) dX7_steps_44 rfl (fun c_3 => ?_) (fun c_3 => ?_)
      · refine g_aload_n 0 dX7_steps_47 rfl rfl ?_
        refine g_get (C := RX7) (T := TX7) (N := 43) 0 5 (fun _ h => List.mem_cons_of_mem _ (List.mem_append_right _ h)) (List.mem_of_getElem? (i := 5) rfl) rfl rfl (by decide) rfl rfl dX7_steps_48 ?_
        refine g_iload_n 1 dX7_steps_51 rfl rfl ?_
        refine g_iald 7 dX7_steps_52 rfl (by decide) (by omega) (by omega) ?_
        refine g_top (y := iI (g k 0)) rfl ?_
        refine g_aload_n 0 dX7_steps_53 rfl rfl ?_
        refine g_get (C := RX7) (T := TX7) (N := 43) 0 4 (fun _ h => List.mem_cons_of_mem _ (List.mem_append_right _ h)) (List.mem_of_getElem? (i := 6) rfl) rfl rfl (by decide) rfl rfl dX7_steps_54 ?_
        refine g_iload_n 1 dX7_steps_57 rfl rfl ?_
        refine g_iald 8 dX7_steps_58 rfl (by decide) (by omega) (by omega) ?_
        refine g_top (y := iI (S k 3)) rfl ?_
        refine g_icmp_ne (tgt := 64) (by unfold R32; omega) (by unfold R32; omega) dX7_steps_59 rfl (fun c_4 => ?_) (fun c_4 => ?_)
        · refine g_iconst dX7_steps_62 ?_
          exact g_iret hRet dX7_steps_63 rfl ⟨2, (g k), 0, 0, so, ta, (fun j => g j 0), (fun j => wkOf (g j)), (fun j => g j 4), (fun j => g j 5), (fun j => g j 6), (fun j => g j 7), (fun j => g j 8), (fun j => g j 10), (by unfold sStep; rw [if_neg hflt, if_neg (by omega), if_pos (by omega)]; exact ⟨rfl, rfl, rfl, rfl⟩), (by constructor <;> (split <;> rfl)), (by exact gapN_id rfl), (by exact (up_id (fun j => wkOf (g j)) k).symm), (by exact ⟨colS rfl, colS rfl, colS rfl, colS rfl, colS rfl⟩), (by rw [if_neg (by omega)]; exact colS rfl), (by omega), rfl, rfl⟩
        · refine g_aload_n 0 dX7_steps_64 rfl rfl ?_
          refine g_get (C := RX7) (T := TX7) (N := 43) 0 5 (fun _ h => List.mem_cons_of_mem _ (List.mem_append_right _ h)) (List.mem_of_getElem? (i := 5) rfl) rfl rfl (by decide) rfl rfl dX7_steps_65 ?_
          refine g_iload_n 1 dX7_steps_68 rfl rfl ?_
          refine g_dup2 dX7_steps_69 rfl rfl ?_
          refine g_iald 7 dX7_steps_70 rfl (by decide) (by omega) (by omega) ?_
          refine g_top (y := iI (g k 0)) rfl ?_
          refine g_iconst dX7_steps_71 ?_
          refine g_iadd dX7_steps_72 ?_
          refine g_iast (ws1 := [(m0, oo 7 (fMo ra mm nf ti so ta go sl lo cn lx ly pm pi)), (ra 15, aI E 8 fm), (ra 16, aI E 8 fa), (ra 17, aI E 8 fb), (ra 12, aI E 6 (fun j => g j 7)), (ra 13, aI E 6 (fun j => g j 8)), (ra 11, aI E 6 (fun j => wkOf (g j))), (ra 5, aI E 6 (up (fun j => g j 0) k ((g k 0) + 1))), (ra 4, aI E 6 (fun j => S j 3)), (ra 1, aI E 6 (fun j => S j 0)), (ra 2, aI E 6 (fun j => S j 1)), (ra 3, aI E 6 (fun j => S j 2)), (ra 7, aI E 6 (fun j => g j 4)), (ra 8, aI E 6 (fun j => g j 5)), (ra 9, aI E 6 (fun j => g j 6)), (ra 10, aI E 6 (fun j => g j 10)), (ra 26, aI E 200 lt), (ra 27, aI E 200 bo), (ra 28, aI E 200 wg)]) 7 dX7_steps_73 rfl rfl (by decide) (by omega) (by omega) ?_
          refine g_aload_n 0 dX7_steps_74 rfl rfl ?_
          refine g_get (C := RX7) (T := TX7) (N := 43) 0 11 (fun _ h => List.mem_cons_of_mem _ (List.mem_append_right _ h)) (List.mem_of_getElem? (i := 4) rfl) rfl rfl (by decide) rfl rfl dX7_steps_75 ?_
          refine g_iload_n 1 dX7_steps_78 rfl rfl ?_
          refine g_iconst dX7_steps_79 ?_
          refine g_iast (ws1 := [(m0, oo 7 (fMo ra mm nf ti so ta go sl lo cn lx ly pm pi)), (ra 15, aI E 8 fm), (ra 16, aI E 8 fa), (ra 17, aI E 8 fb), (ra 12, aI E 6 (fun j => g j 7)), (ra 13, aI E 6 (fun j => g j 8)), (ra 11, aI E 6 (up (fun j => wkOf (g j)) k (-1))), (ra 5, aI E 6 (up (fun j => g j 0) k ((g k 0) + 1))), (ra 4, aI E 6 (fun j => S j 3)), (ra 1, aI E 6 (fun j => S j 0)), (ra 2, aI E 6 (fun j => S j 1)), (ra 3, aI E 6 (fun j => S j 2)), (ra 7, aI E 6 (fun j => g j 4)), (ra 8, aI E 6 (fun j => g j 5)), (ra 9, aI E 6 (fun j => g j 6)), (ra 10, aI E 6 (fun j => g j 10)), (ra 26, aI E 200 lt), (ra 27, aI E 200 bo), (ra 28, aI E 200 wg)]) 6 dX7_steps_80 rfl rfl (by decide) (by omega) (by omega) ?_
          have hU_5 : up (fun j => g j 0) k (give1 (g k) 0) = (up (fun j => g j 0) k ((g k 0) + 1)) := by rw [give1_0]; first | (rw [if_pos (by omega)]; done) | (rw [if_neg (by omega)]; exact up_id (fun j => g j 0) k)
          have hU_6 : up (fun j => wkOf (g j)) k (wkOf (give1 (g k))) = (up (fun j => wkOf (g j)) k (-1)) := by rw [wk_g hc]; first | (rw [if_neg (by omega)]; done) | exact up_same (by show wkOf (g k) = _; have w1 := hW.2.1; have w2 := hW.2.2.1; split <;> omega)
          refine g_as (ws1 := [(m0, oo 7 (fMo ra mm nf ti so ta go sl lo cn lx ly pm pi)), (ra 15, aI E 8 fm), (ra 16, aI E 8 fa), (ra 17, aI E 8 fb), (ra 12, aI E 6 (fun j => g j 7)), (ra 13, aI E 6 (fun j => g j 8)), (ra 11, aI E 6 (up (fun j => wkOf (g j)) k (wkOf (give1 (g k))))), (ra 5, aI E 6 (up (fun j => g j 0) k (give1 (g k) 0))), (ra 4, aI E 6 (fun j => S j 3)), (ra 1, aI E 6 (fun j => S j 0)), (ra 2, aI E 6 (fun j => S j 1)), (ra 3, aI E 6 (fun j => S j 2)), (ra 7, aI E 6 (fun j => g j 4)), (ra 8, aI E 6 (fun j => g j 5)), (ra 9, aI E 6 (fun j => g j 6)), (ra 10, aI E 6 (fun j => g j 10)), (ra 26, aI E 200 lt), (ra 27, aI E 200 bo), (ra 28, aI E 200 wg)]) ?_ (by rw [hU_5, hU_6]) rfl rfl
          have hwg := wk_g hc
          have hgp : ∀ j, 0 ≤ j → j < 6 → 0 ≤ up (fun j => g j 0) k (give1 (g k) 0) j ∧ up (fun j => g j 0) k (give1 (g k) 0) j ≤ 20 := by intro j j0 j1; unfold up; rw [give1_0]; have q8 := hgr k (by omega) (by omega); have q9 := hgr j j0 j1; have q7 := hs.2.2.2; split <;> (try split) <;> omega
          refine g_aload_n 0 dX7_steps_81 rfl rfl ?_
          refine g_get (C := RX7) (T := TX7) (N := 43) 0 11 (fun _ h => List.mem_cons_of_mem _ (List.mem_append_right _ h)) (List.mem_of_getElem? (i := 4) rfl) rfl rfl (by decide) rfl rfl dX7_steps_82 ?_
          refine g_iload_n 1 dX7_steps_85 rfl rfl ?_
          refine g_iald 6 dX7_steps_86 rfl (by decide) (by omega) (by omega) ?_
          refine g_top (y := iI (wkOf (give1 (g k)))) (congrArg iI (up_s _ _ _)) ?_
          refine g_if_ge (tgt := 107) (by unfold R32; omega) dX7_steps_87 rfl (fun c_7 => ?_) (fun c_7 => ?_)
          · refine g_aload_n 0 dX7_steps_107 rfl rfl ?_
            refine g_get (C := RX7) (T := TX7) (N := 43) 0 11 (fun _ h => List.mem_cons_of_mem _ (List.mem_append_right _ h)) (List.mem_of_getElem? (i := 4) rfl) rfl rfl (by decide) rfl rfl dX7_steps_108 ?_
            refine g_iload_n 1 dX7_steps_111 rfl rfl ?_
            refine g_dup2 dX7_steps_112 rfl rfl ?_
            refine g_iald 6 dX7_steps_113 rfl (by decide) (by omega) (by omega) ?_
            refine g_top (y := iI (wkOf (give1 (g k)))) (congrArg iI (up_s _ _ _)) ?_
            refine g_iconst dX7_steps_114 ?_
            refine g_iadd dX7_steps_115 ?_
            refine g_iast (ws1 := [(m0, oo 7 (fMo ra mm nf ti so ta go sl lo cn lx ly pm pi)), (ra 15, aI E 8 fm), (ra 16, aI E 8 fa), (ra 17, aI E 8 fb), (ra 12, aI E 6 (fun j => g j 7)), (ra 13, aI E 6 (fun j => g j 8)), (ra 11, aI E 6 (up (up (fun j => wkOf (g j)) k (wkOf (give1 (g k)))) k ((wkOf (give1 (g k))) + 1))), (ra 5, aI E 6 (up (fun j => g j 0) k (give1 (g k) 0))), (ra 4, aI E 6 (fun j => S j 3)), (ra 1, aI E 6 (fun j => S j 0)), (ra 2, aI E 6 (fun j => S j 1)), (ra 3, aI E 6 (fun j => S j 2)), (ra 7, aI E 6 (fun j => g j 4)), (ra 8, aI E 6 (fun j => g j 5)), (ra 9, aI E 6 (fun j => g j 6)), (ra 10, aI E 6 (fun j => g j 10)), (ra 26, aI E 200 lt), (ra 27, aI E 200 bo), (ra 28, aI E 200 wg)]) 6 dX7_steps_116 rfl rfl (by decide) (by omega) (by omega) ?_
            have hU_8 : (up (fun j => wkOf (g j)) k (wkOf (work1 (g k)))) = (up (up (fun j => wkOf (g j)) k (wkOf (give1 (g k)))) k ((wkOf (give1 (g k))) + 1)) := by (repeat rw [up_up]); rw [wk_w hc]; congr 1; first | omega | (rw [wk_g hc, if_pos (by omega)])
            refine g_as (ws1 := [(m0, oo 7 (fMo ra mm nf ti so ta go sl lo cn lx ly pm pi)), (ra 15, aI E 8 fm), (ra 16, aI E 8 fa), (ra 17, aI E 8 fb), (ra 12, aI E 6 (fun j => g j 7)), (ra 13, aI E 6 (fun j => g j 8)), (ra 11, aI E 6 (up (fun j => wkOf (g j)) k (wkOf (work1 (g k))))), (ra 5, aI E 6 (up (fun j => g j 0) k (give1 (g k) 0))), (ra 4, aI E 6 (fun j => S j 3)), (ra 1, aI E 6 (fun j => S j 0)), (ra 2, aI E 6 (fun j => S j 1)), (ra 3, aI E 6 (fun j => S j 2)), (ra 7, aI E 6 (fun j => g j 4)), (ra 8, aI E 6 (fun j => g j 5)), (ra 9, aI E 6 (fun j => g j 6)), (ra 10, aI E 6 (fun j => g j 10)), (ra 26, aI E 200 lt), (ra 27, aI E 200 bo), (ra 28, aI E 200 wg)]) ?_ (by rw [hU_8]) rfl rfl
            have hww := wk_w hc
            refine g_aload_n 0 dX7_steps_117 rfl rfl ?_
            refine g_get (C := RX7) (T := TX7) (N := 43) 0 11 (fun _ h => List.mem_cons_of_mem _ (List.mem_append_right _ h)) (List.mem_of_getElem? (i := 4) rfl) rfl rfl (by decide) rfl rfl dX7_steps_118 ?_
            refine g_iload_n 1 dX7_steps_121 rfl rfl ?_
            refine g_iald 6 dX7_steps_122 rfl (by decide) (by omega) (by omega) ?_
            refine g_top (y := iI (wkOf (work1 (g k)))) (congrArg iI (up_s _ _ _)) ?_
            refine g_aload_n 0 dX7_steps_123 rfl rfl ?_
            refine g_get (C := RX7) (T := TX7) (N := 43) 0 1 (fun _ h => List.mem_cons_of_mem _ (List.mem_append_right _ h)) (List.mem_of_getElem? (i := 7) rfl) rfl rfl (by decide) rfl rfl dX7_steps_124 ?_
            refine g_iload_n 1 dX7_steps_127 rfl rfl ?_
            refine g_iald 9 dX7_steps_128 rfl (by decide) (by omega) (by omega) ?_
            refine g_top (y := iI (S k 0)) rfl ?_
            refine g_icmp_lt (tgt := 137) (by unfold R32; omega) (by unfold R32; omega) dX7_steps_129 rfl (fun c_9 => ?_) (fun c_9 => ?_)
            · refine g_aload_n 0 dX7_steps_137 rfl rfl ?_
              refine g_get (C := RX7) (T := TX7) (N := 43) 0 10 (fun _ h => List.mem_cons_of_mem _ (List.mem_append_right _ h)) (List.mem_of_getElem? (i := 8) rfl) rfl rfl (by decide) rfl rfl dX7_steps_138 ?_
              refine g_iload_n 1 dX7_steps_141 rfl rfl ?_
              refine g_dup2 dX7_steps_142 rfl rfl ?_
              refine g_iald 15 dX7_steps_143 rfl (by decide) (by omega) (by omega) ?_
              refine g_top (y := iI (g k 10)) rfl ?_
              refine g_iconst dX7_steps_144 ?_
              refine g_iadd dX7_steps_145 ?_
              refine g_iast (ws1 := [(m0, oo 7 (fMo ra mm nf ti so ta go sl lo cn lx ly pm pi)), (ra 15, aI E 8 fm), (ra 16, aI E 8 fa), (ra 17, aI E 8 fb), (ra 12, aI E 6 (fun j => g j 7)), (ra 13, aI E 6 (fun j => g j 8)), (ra 11, aI E 6 (up (fun j => wkOf (g j)) k (wkOf (work1 (g k))))), (ra 5, aI E 6 (up (fun j => g j 0) k (give1 (g k) 0))), (ra 4, aI E 6 (fun j => S j 3)), (ra 1, aI E 6 (fun j => S j 0)), (ra 2, aI E 6 (fun j => S j 1)), (ra 3, aI E 6 (fun j => S j 2)), (ra 7, aI E 6 (fun j => g j 4)), (ra 8, aI E 6 (fun j => g j 5)), (ra 9, aI E 6 (fun j => g j 6)), (ra 10, aI E 6 (up (fun j => g j 10) k ((g k 10) + 1))), (ra 26, aI E 200 lt), (ra 27, aI E 200 bo), (ra 28, aI E 200 wg)]) 15 dX7_steps_146 rfl rfl (by decide) (by omega) (by omega) ?_
              refine g_iconst dX7_steps_147 ?_
              exact g_iret hRet dX7_steps_148 rfl ⟨3, (work1 (g k)), 0, 0, so, ta, (up (fun j => g j 0) k (give1 (g k) 0)), (up (fun j => wkOf (g j)) k (wkOf (work1 (g k)))), (fun j => g j 4), (fun j => g j 5), (fun j => g j 6), (fun j => g j 7), (fun j => g j 8), (up (fun j => g j 10) k ((g k 10) + 1)), (by first | (exfalso; omega) | (unfold sStep; rw [if_neg hflt, if_neg (by omega), if_neg (by omega), if_neg (by omega)]; refine ⟨rfl, ?_, ?_⟩; (first | (rw [if_pos (by omega)]; omega) | (rw [if_neg (by omega)]; omega) | rw [if_pos (by omega)] | rw [if_neg (by omega)]); unfold sFin; rw [if_pos (by rw [work1_3]; omega)]; exact ⟨rfl, rfl⟩)), (by constructor <;> (split <;> rfl)), (by rw [← (gapN_c (c := give1 (g k)) (by rw [work1_o _ 0 (by omega) (by omega)]))]; exact gapN_0), (by rfl), (by exact ⟨colS (by rw [work1_o _ 4 (by omega) (by omega), give1_o _ 4 (by omega) (by omega)]), colS (by rw [work1_o _ 5 (by omega) (by omega), give1_o _ 5 (by omega) (by omega)]), colS (by rw [work1_o _ 6 (by omega) (by omega), give1_o _ 6 (by omega) (by omega)]), colS (by rw [work1_o _ 7 (by omega) (by omega), give1_o _ 7 (by omega) (by omega)]), colS (by rw [work1_o _ 8 (by omega) (by omega), give1_o _ 8 (by omega) (by omega)])⟩), (by rw [if_pos rfl]; congr 1; rw [work1_o _ 10 (by omega) (by omega), give1_o _ 10 (by omega) (by omega)]), (by omega), rfl, rfl⟩
            · refine g_aload_n 0 dX7_steps_132 rfl rfl ?_
              refine g_iload_n 1 dX7_steps_133 rfl rfl ?_
              refine g_callV_v (n := 1) (As := [.int (iI k)]) (wr := [(ra 15, aI E 8 fm), (ra 16, aI E 8 fa), (ra 17, aI E 8 fb), (ra 5, aI E 6 (up (fun j => g j 0) k (give1 (g k) 0))), (ra 4, aI E 6 (fun j => S j 3)), (ra 1, aI E 6 (fun j => S j 0)), (ra 10, aI E 6 (fun j => g j 10))]) (C := RX7) [] (c_X7_finishes E m0 ra mm nf ti so ta go sl lo cn lx ly pm pi g S (work1 (g k)) (up (fun j => wkOf (g j)) k (wkOf (work1 (g k)))) lt bo wg k (by omega) (by omega) (by first | exact hso | (rw [hft2.1]; have q3 := hft.2; rw [hav] at q3; (repeat' split) <;> (try (rw [if_pos (by assumption)] at q3)) <;> omega)) (by omega) (by omega) (by omega) (by omega) (by exact (by rw [work1_o _ 4 (by omega) (by omega), give1_o _ 4 (by omega) (by omega)])) (by rw [work1_o _ 5 (by omega) (by omega), give1_o _ 5 (by omega) (by omega)]) (by rw [work1_o _ 6 (by omega) (by omega), give1_o _ 6 (by omega) (by omega)]) (by rw [work1_o _ 7 (by omega) (by omega), give1_o _ 7 (by omega) (by omega)]) (by rw [work1_o _ 8 (by omega) (by omega), give1_o _ 8 (by omega) (by omega)]) (by rw [work1_o _ 2 (by omega) (by omega), give1_2]) (by rw [work1_o _ 7 (by omega) (by omega), give1_o _ 7 (by omega) (by omega)]; omega) (by exact hs)) [0, 10, 11, 12, 13, 14, 4, 5, 6, 16, 17, 18] [1, 2, 3, 7, 8, 9, 15] 0 rfl rfl gX7_steps_X7_finishes rfl ⟨rfl, by decide +kernel⟩ ⟨by decide, by decide⟩ rfl rfl rfl rfl rfl (by decide) rfl (by decide) (by decide) (fun _ h => absurd h List.not_mem_nil) dX7_steps_134 rfl (Nat.le_of_ble_eq_true rfl) ⟨by decide, by decide⟩ (fun u p_10 => ?_)
              obtain ⟨cc, gdd, hfe, hfw, rfl⟩ := p_10
              refine g_perm (ws1 := [(m0, oo 7 (fMo ra mm nf ti so ta (if gdd = 0 then go else go + 1) sl lo (if gdd = 1 ∧ cn < 200 then cn + 1 else cn) lx ly pm pi)), (ra 15, aI E 8 fm), (ra 16, aI E 8 fa), (ra 17, aI E 8 fb), (ra 12, aI E 6 (up (fun j => g j 7) k (cc 7))), (ra 13, aI E 6 (up (fun j => g j 8) k (cc 8))), (ra 11, aI E 6 (up (up (fun j => wkOf (g j)) k (wkOf (work1 (g k)))) k (if cc 2 = 1 then 100 else -1))), (ra 5, aI E 6 (up (fun j => g j 0) k (give1 (g k) 0))), (ra 4, aI E 6 (fun j => S j 3)), (ra 1, aI E 6 (fun j => S j 0)), (ra 2, aI E 6 (fun j => S j 1)), (ra 3, aI E 6 (fun j => S j 2)), (ra 7, aI E 6 (up (fun j => g j 4) k (cc 4))), (ra 8, aI E 6 (up (fun j => g j 5) k (cc 5))), (ra 9, aI E 6 (up (fun j => g j 6) k (cc 6))), (ra 10, aI E 6 (fun j => g j 10)), (ra 26, aI E 200 (if gdd = 1 ∧ cn < 200 then up lt cn lo else lt)), (ra 27, aI E 200 (if gdd = 1 ∧ cn < 200 then up bo cn (-4) else bo)), (ra 28, aI E 200 (if gdd = 1 ∧ cn < 200 then up wg cn (-4) else wg))]) [7, 0, 1, 2, 13, 14, 15, 3, 4, 5, 8, 9, 10, 11, 12, 6, 16, 17, 18] rfl (by decide) rfl ?_
              refine g_aload_n 0 dX7_steps_137 rfl rfl ?_
              refine g_get (C := RX7) (T := TX7) (N := 43) 0 10 (fun _ h => List.mem_cons_of_mem _ (List.mem_append_right _ h)) (List.mem_of_getElem? (i := 8) rfl) rfl rfl (by decide) rfl rfl dX7_steps_138 ?_
              refine g_iload_n 1 dX7_steps_141 rfl rfl ?_
              refine g_dup2 dX7_steps_142 rfl rfl ?_
              refine g_iald 15 dX7_steps_143 rfl (by decide) (by omega) (by omega) ?_
              refine g_top (y := iI (g k 10)) rfl ?_
              refine g_iconst dX7_steps_144 ?_
              refine g_iadd dX7_steps_145 ?_
              refine g_iast (ws1 := [(m0, oo 7 (fMo ra mm nf ti so ta (if gdd = 0 then go else go + 1) sl lo (if gdd = 1 ∧ cn < 200 then cn + 1 else cn) lx ly pm pi)), (ra 15, aI E 8 fm), (ra 16, aI E 8 fa), (ra 17, aI E 8 fb), (ra 12, aI E 6 (up (fun j => g j 7) k (cc 7))), (ra 13, aI E 6 (up (fun j => g j 8) k (cc 8))), (ra 11, aI E 6 (up (up (fun j => wkOf (g j)) k (wkOf (work1 (g k)))) k (if cc 2 = 1 then 100 else -1))), (ra 5, aI E 6 (up (fun j => g j 0) k (give1 (g k) 0))), (ra 4, aI E 6 (fun j => S j 3)), (ra 1, aI E 6 (fun j => S j 0)), (ra 2, aI E 6 (fun j => S j 1)), (ra 3, aI E 6 (fun j => S j 2)), (ra 7, aI E 6 (up (fun j => g j 4) k (cc 4))), (ra 8, aI E 6 (up (fun j => g j 5) k (cc 5))), (ra 9, aI E 6 (up (fun j => g j 6) k (cc 6))), (ra 10, aI E 6 (up (fun j => g j 10) k ((g k 10) + 1))), (ra 26, aI E 200 (if gdd = 1 ∧ cn < 200 then up lt cn lo else lt)), (ra 27, aI E 200 (if gdd = 1 ∧ cn < 200 then up bo cn (-4) else bo)), (ra 28, aI E 200 (if gdd = 1 ∧ cn < 200 then up wg cn (-4) else wg))]) 15 dX7_steps_146 rfl rfl (by decide) (by omega) (by omega) ?_
              refine g_iconst dX7_steps_147 ?_
              exact g_iret hRet dX7_steps_148 rfl ⟨3, cc, 0, gdd, so, ta, (up (fun j => g j 0) k (give1 (g k) 0)), (up (up (fun j => wkOf (g j)) k (wkOf (work1 (g k)))) k (if cc 2 = 1 then 100 else -1)), (up (fun j => g j 4) k (cc 4)), (up (fun j => g j 5) k (cc 5)), (up (fun j => g j 6) k (cc 6)), (up (fun j => g j 7) k (cc 7)), (up (fun j => g j 8) k (cc 8)), (up (fun j => g j 10) k ((g k 10) + 1)), (by first | (exfalso; omega) | (unfold sStep; rw [if_neg hflt, if_neg (by omega), if_neg (by omega), if_neg (by omega)]; refine ⟨rfl, ?_, ?_⟩; (first | (rw [if_pos (by omega)]; omega) | (rw [if_neg (by omega)]; omega) | rw [if_pos (by omega)] | rw [if_neg (by omega)]); unfold sFin; rw [if_neg (by rw [work1_3]; omega)]; exact hfe)), (by constructor <;> (split <;> rfl)), (by rw [← (gapN_c (c := give1 (g k)) (by rw [(sEnd_f hfe).1, work1_o _ 0 (by omega) (by omega)]))]; exact gapN_0), (by rw [up_up, ← hfw.1]), (by exact ⟨rfl, rfl, rfl, rfl, rfl⟩), (by rw [if_pos rfl]; congr 1; rw [(sEnd_f hfe).2, work1_o _ 10 (by omega) (by omega), give1_o _ 10 (by omega) (by omega)]), (by exact hfw.2), rfl, rfl⟩
          · refine g_aload_n 0 dX7_steps_90 rfl rfl ?_
            refine g_iload_n 1 dX7_steps_91 rfl rfl ?_
            refine g_callV_i (n := 1) (As := [.int (iI k)]) (wr := [(ra 15, aI E 8 fm), (ra 16, aI E 8 fa), (ra 17, aI E 8 fb), (ra 12, aI E 6 (fun j => g j 7)), (ra 13, aI E 6 (fun j => g j 8)), (ra 11, aI E 6 (up (fun j => wkOf (g j)) k (wkOf (give1 (g k))))), (ra 4, aI E 6 (fun j => S j 3)), (ra 1, aI E 6 (fun j => S j 0)), (ra 2, aI E 6 (fun j => S j 1)), (ra 3, aI E 6 (fun j => S j 2)), (ra 7, aI E 6 (fun j => g j 4)), (ra 8, aI E 6 (fun j => g j 5)), (ra 9, aI E 6 (fun j => g j 6)), (ra 10, aI E 6 (fun j => g j 10)), (ra 26, aI E 200 lt), (ra 27, aI E 200 bo), (ra 28, aI E 200 wg)]) (C := RX7) [] (c_X7_takes E m0 ra mm nf ti so ta go sl lo cn lx ly pm pi (up (fun j => g j 0) k (give1 (g k) 0)) k (by omega) (by omega) (by omega) (by omega) (by omega) (by omega) (by omega) (by exact hgp)) [0, 7] [1, 2, 3, 4, 5, 6, 8, 9, 10, 11, 12, 13, 14, 15, 16, 17, 18] 0 rfl rfl gX7_steps_X7_takes rfl ⟨rfl, by decide +kernel⟩ ⟨by decide, by decide⟩ rfl rfl rfl rfl rfl (by decide) rfl (by decide) (by decide) (fun _ h => absurd h List.not_mem_nil) dX7_steps_92 rfl (Nat.le_of_ble_eq_true rfl) ⟨by decide, by decide⟩ (fun r u p_11 => ?_)
            obtain ⟨tkw, so_12, ta_13, gp_14, hft, hft2, hft3, rfl, rfl⟩ := p_11
            refine g_perm (ws1 := [(m0, oo 7 (fMo ra mm nf ti so_12 ta_13 go sl lo cn lx ly pm pi)), (ra 15, aI E 8 fm), (ra 16, aI E 8 fa), (ra 17, aI E 8 fb), (ra 12, aI E 6 (fun j => g j 7)), (ra 13, aI E 6 (fun j => g j 8)), (ra 11, aI E 6 (up (fun j => wkOf (g j)) k (wkOf (give1 (g k))))), (ra 5, aI E 6 gp_14), (ra 4, aI E 6 (fun j => S j 3)), (ra 1, aI E 6 (fun j => S j 0)), (ra 2, aI E 6 (fun j => S j 1)), (ra 3, aI E 6 (fun j => S j 2)), (ra 7, aI E 6 (fun j => g j 4)), (ra 8, aI E 6 (fun j => g j 5)), (ra 9, aI E 6 (fun j => g j 6)), (ra 10, aI E 6 (fun j => g j 10)), (ra 26, aI E 200 lt), (ra 27, aI E 200 bo), (ra 28, aI E 200 wg)]) [17, 0, 1, 2, 3, 4, 5, 18, 6, 7, 8, 9, 10, 11, 12, 13, 14, 15, 16] rfl (by decide) rfl ?_
            have hav : (if k = 0 then so else up (fun j => g j 0) k (give1 (g k) 0) (k - 1)) = (if k = 0 then so else g (k - 1) 0) := by rw [up_n (fun j => g j 0) _ (show k - 1 ≠ k by omega)]
            have hav0 : 0 ≤ (if k = 0 then so else g (k - 1) 0) := by split; exact hso.1; exact (hgr (k - 1) (by omega) (by omega)).1
            refine g_if_ne (tgt := 100) (by unfold R32; omega) dX7_steps_95 rfl (fun c_15 => ?_) (fun c_15 => ?_)
            · refine g_iconst dX7_steps_98 ?_
              exact g_iret hRet dX7_steps_99 rfl ⟨4, (give1 (g k)), tkw, 0, so_12, ta_13, gp_14, (up (fun j => wkOf (g j)) k (wkOf (give1 (g k)))), (fun j => g j 4), (fun j => g j 5), (fun j => g j 6), (fun j => g j 7), (fun j => g j 8), (fun j => g j 10), (by unfold sStep; rw [if_neg hflt, if_neg (by omega), if_neg (by omega), if_pos (by rw [← hav]; have q3 := hft.2.mp (by omega); have q4 := hwg; refine ⟨?_, q3⟩; rw [hwg] at *; split at * <;> omega)]; exact ⟨rfl, rfl, by omega, rfl⟩), (by exact hft2), (by rw [hft3]; exact gapN_tk), (by rfl), (by exact ⟨colS (give1_o _ 4 (by omega) (by omega)), colS (give1_o _ 5 (by omega) (by omega)), colS (give1_o _ 6 (by omega) (by omega)), colS (give1_o _ 7 (by omega) (by omega)), colS (give1_o _ 8 (by omega) (by omega))⟩), (by rw [if_neg (by omega)]; exact colS (give1_o _ 10 (by omega) (by omega))), (by omega), rfl, rfl⟩
            · refine g_aload_n 0 dX7_steps_100 rfl rfl ?_
              refine g_get (C := RX7) (T := TX7) (N := 43) 0 11 (fun _ h => List.mem_cons_of_mem _ (List.mem_append_right _ h)) (List.mem_of_getElem? (i := 4) rfl) rfl rfl (by decide) rfl rfl dX7_steps_101 ?_
              refine g_iload_n 1 dX7_steps_104 rfl rfl ?_
              refine g_iconst dX7_steps_105 ?_
              refine g_iast (ws1 := [(m0, oo 7 (fMo ra mm nf ti so_12 ta_13 go sl lo cn lx ly pm pi)), (ra 15, aI E 8 fm), (ra 16, aI E 8 fa), (ra 17, aI E 8 fb), (ra 12, aI E 6 (fun j => g j 7)), (ra 13, aI E 6 (fun j => g j 8)), (ra 11, aI E 6 (up (up (fun j => wkOf (g j)) k (wkOf (give1 (g k)))) k 0)), (ra 5, aI E 6 gp_14), (ra 4, aI E 6 (fun j => S j 3)), (ra 1, aI E 6 (fun j => S j 0)), (ra 2, aI E 6 (fun j => S j 1)), (ra 3, aI E 6 (fun j => S j 2)), (ra 7, aI E 6 (fun j => g j 4)), (ra 8, aI E 6 (fun j => g j 5)), (ra 9, aI E 6 (fun j => g j 6)), (ra 10, aI E 6 (fun j => g j 10)), (ra 26, aI E 200 lt), (ra 27, aI E 200 bo), (ra 28, aI E 200 wg)]) 6 dX7_steps_106 rfl rfl (by decide) (by omega) (by omega) ?_
              refine g_aload_n 0 dX7_steps_107 rfl rfl ?_
              refine g_get (C := RX7) (T := TX7) (N := 43) 0 11 (fun _ h => List.mem_cons_of_mem _ (List.mem_append_right _ h)) (List.mem_of_getElem? (i := 4) rfl) rfl rfl (by decide) rfl rfl dX7_steps_108 ?_
              refine g_iload_n 1 dX7_steps_111 rfl rfl ?_
              refine g_dup2 dX7_steps_112 rfl rfl ?_
              refine g_iald 6 dX7_steps_113 rfl (by decide) (by omega) (by omega) ?_
              refine g_top (y := iI 0) (congrArg iI (up_s _ _ _)) ?_
              refine g_iconst dX7_steps_114 ?_
              refine g_iadd dX7_steps_115 ?_
              refine g_iast (ws1 := [(m0, oo 7 (fMo ra mm nf ti so_12 ta_13 go sl lo cn lx ly pm pi)), (ra 15, aI E 8 fm), (ra 16, aI E 8 fa), (ra 17, aI E 8 fb), (ra 12, aI E 6 (fun j => g j 7)), (ra 13, aI E 6 (fun j => g j 8)), (ra 11, aI E 6 (up (up (up (fun j => wkOf (g j)) k (wkOf (give1 (g k)))) k 0) k (0 + 1))), (ra 5, aI E 6 gp_14), (ra 4, aI E 6 (fun j => S j 3)), (ra 1, aI E 6 (fun j => S j 0)), (ra 2, aI E 6 (fun j => S j 1)), (ra 3, aI E 6 (fun j => S j 2)), (ra 7, aI E 6 (fun j => g j 4)), (ra 8, aI E 6 (fun j => g j 5)), (ra 9, aI E 6 (fun j => g j 6)), (ra 10, aI E 6 (fun j => g j 10)), (ra 26, aI E 200 lt), (ra 27, aI E 200 bo), (ra 28, aI E 200 wg)]) 6 dX7_steps_116 rfl rfl (by decide) (by omega) (by omega) ?_
              have hU_16 : (up (fun j => wkOf (g j)) k (wkOf (work1 (g k)))) = (up (up (up (fun j => wkOf (g j)) k (wkOf (give1 (g k)))) k 0) k (0 + 1)) := by (repeat rw [up_up]); rw [wk_w hc]; congr 1; first | omega | (rw [wk_g hc, if_pos (by omega)])
              refine g_as (ws1 := [(m0, oo 7 (fMo ra mm nf ti so_12 ta_13 go sl lo cn lx ly pm pi)), (ra 15, aI E 8 fm), (ra 16, aI E 8 fa), (ra 17, aI E 8 fb), (ra 12, aI E 6 (fun j => g j 7)), (ra 13, aI E 6 (fun j => g j 8)), (ra 11, aI E 6 (up (fun j => wkOf (g j)) k (wkOf (work1 (g k))))), (ra 5, aI E 6 gp_14), (ra 4, aI E 6 (fun j => S j 3)), (ra 1, aI E 6 (fun j => S j 0)), (ra 2, aI E 6 (fun j => S j 1)), (ra 3, aI E 6 (fun j => S j 2)), (ra 7, aI E 6 (fun j => g j 4)), (ra 8, aI E 6 (fun j => g j 5)), (ra 9, aI E 6 (fun j => g j 6)), (ra 10, aI E 6 (fun j => g j 10)), (ra 26, aI E 200 lt), (ra 27, aI E 200 bo), (ra 28, aI E 200 wg)]) ?_ (by rw [hU_16]) rfl rfl
              have hww := wk_w hc
              refine g_aload_n 0 dX7_steps_117 rfl rfl ?_
              refine g_get (C := RX7) (T := TX7) (N := 43) 0 11 (fun _ h => List.mem_cons_of_mem _ (List.mem_append_right _ h)) (List.mem_of_getElem? (i := 4) rfl) rfl rfl (by decide) rfl rfl dX7_steps_118 ?_
              refine g_iload_n 1 dX7_steps_121 rfl rfl ?_
              refine g_iald 6 dX7_steps_122 rfl (by decide) (by omega) (by omega) ?_
              refine g_top (y := iI (wkOf (work1 (g k)))) (congrArg iI (up_s _ _ _)) ?_
              refine g_aload_n 0 dX7_steps_123 rfl rfl ?_
              refine g_get (C := RX7) (T := TX7) (N := 43) 0 1 (fun _ h => List.mem_cons_of_mem _ (List.mem_append_right _ h)) (List.mem_of_getElem? (i := 7) rfl) rfl rfl (by decide) rfl rfl dX7_steps_124 ?_
              refine g_iload_n 1 dX7_steps_127 rfl rfl ?_
              refine g_iald 9 dX7_steps_128 rfl (by decide) (by omega) (by omega) ?_
              refine g_top (y := iI (S k 0)) rfl ?_
              refine g_icmp_lt (tgt := 137) (by unfold R32; omega) (by unfold R32; omega) dX7_steps_129 rfl (fun c_17 => ?_) (fun c_17 => ?_)
              · refine g_aload_n 0 dX7_steps_137 rfl rfl ?_
                refine g_get (C := RX7) (T := TX7) (N := 43) 0 10 (fun _ h => List.mem_cons_of_mem _ (List.mem_append_right _ h)) (List.mem_of_getElem? (i := 8) rfl) rfl rfl (by decide) rfl rfl dX7_steps_138 ?_
                refine g_iload_n 1 dX7_steps_141 rfl rfl ?_
                refine g_dup2 dX7_steps_142 rfl rfl ?_
                refine g_iald 15 dX7_steps_143 rfl (by decide) (by omega) (by omega) ?_
                refine g_top (y := iI (g k 10)) rfl ?_
                refine g_iconst dX7_steps_144 ?_
                refine g_iadd dX7_steps_145 ?_
                refine g_iast (ws1 := [(m0, oo 7 (fMo ra mm nf ti so_12 ta_13 go sl lo cn lx ly pm pi)), (ra 15, aI E 8 fm), (ra 16, aI E 8 fa), (ra 17, aI E 8 fb), (ra 12, aI E 6 (fun j => g j 7)), (ra 13, aI E 6 (fun j => g j 8)), (ra 11, aI E 6 (up (fun j => wkOf (g j)) k (wkOf (work1 (g k))))), (ra 5, aI E 6 gp_14), (ra 4, aI E 6 (fun j => S j 3)), (ra 1, aI E 6 (fun j => S j 0)), (ra 2, aI E 6 (fun j => S j 1)), (ra 3, aI E 6 (fun j => S j 2)), (ra 7, aI E 6 (fun j => g j 4)), (ra 8, aI E 6 (fun j => g j 5)), (ra 9, aI E 6 (fun j => g j 6)), (ra 10, aI E 6 (up (fun j => g j 10) k ((g k 10) + 1))), (ra 26, aI E 200 lt), (ra 27, aI E 200 bo), (ra 28, aI E 200 wg)]) 15 dX7_steps_146 rfl rfl (by decide) (by omega) (by omega) ?_
                refine g_iconst dX7_steps_147 ?_
                exact g_iret hRet dX7_steps_148 rfl ⟨3, (work1 (g k)), tkw, 0, so_12, ta_13, gp_14, (up (fun j => wkOf (g j)) k (wkOf (work1 (g k)))), (fun j => g j 4), (fun j => g j 5), (fun j => g j 6), (fun j => g j 7), (fun j => g j 8), (up (fun j => g j 10) k ((g k 10) + 1)), (by first | (exfalso; omega) | (unfold sStep; rw [if_neg hflt, if_neg (by omega), if_neg (by omega), if_neg (by intro q; have q3 := hft.2.mpr (by rw [hav]; exact q.2); omega)]; refine ⟨rfl, ?_, ?_⟩; (first | (rw [if_pos (by omega)]; omega) | (rw [if_neg (by omega)]; omega) | rw [if_pos (by omega)] | rw [if_neg (by omega)]); unfold sFin; rw [if_pos (by rw [work1_3]; omega)]; exact ⟨rfl, rfl⟩)), (by exact hft2), (by rw [← (gapN_c (c := give1 (g k)) (by rw [work1_o _ 0 (by omega) (by omega)]))]; rw [hft3]; exact gapN_tk), (by rfl), (by exact ⟨colS (by rw [work1_o _ 4 (by omega) (by omega), give1_o _ 4 (by omega) (by omega)]), colS (by rw [work1_o _ 5 (by omega) (by omega), give1_o _ 5 (by omega) (by omega)]), colS (by rw [work1_o _ 6 (by omega) (by omega), give1_o _ 6 (by omega) (by omega)]), colS (by rw [work1_o _ 7 (by omega) (by omega), give1_o _ 7 (by omega) (by omega)]), colS (by rw [work1_o _ 8 (by omega) (by omega), give1_o _ 8 (by omega) (by omega)])⟩), (by rw [if_pos rfl]; congr 1; rw [work1_o _ 10 (by omega) (by omega), give1_o _ 10 (by omega) (by omega)]), (by omega), rfl, rfl⟩
              · refine g_aload_n 0 dX7_steps_132 rfl rfl ?_
                refine g_iload_n 1 dX7_steps_133 rfl rfl ?_
                refine g_callV_v (n := 1) (As := [.int (iI k)]) (wr := [(ra 15, aI E 8 fm), (ra 16, aI E 8 fa), (ra 17, aI E 8 fb), (ra 5, aI E 6 gp_14), (ra 4, aI E 6 (fun j => S j 3)), (ra 1, aI E 6 (fun j => S j 0)), (ra 10, aI E 6 (fun j => g j 10))]) (C := RX7) [] (c_X7_finishes E m0 ra mm nf ti so_12 ta_13 go sl lo cn lx ly pm pi g S (work1 (g k)) (up (fun j => wkOf (g j)) k (wkOf (work1 (g k)))) lt bo wg k (by omega) (by omega) (by first | exact hso | (rw [hft2.1]; have q3 := hft.2; rw [hav] at q3; (repeat' split) <;> (try (rw [if_pos (by assumption)] at q3)) <;> omega)) (by omega) (by omega) (by omega) (by omega) (by exact (by rw [work1_o _ 4 (by omega) (by omega), give1_o _ 4 (by omega) (by omega)])) (by rw [work1_o _ 5 (by omega) (by omega), give1_o _ 5 (by omega) (by omega)]) (by rw [work1_o _ 6 (by omega) (by omega), give1_o _ 6 (by omega) (by omega)]) (by rw [work1_o _ 7 (by omega) (by omega), give1_o _ 7 (by omega) (by omega)]) (by rw [work1_o _ 8 (by omega) (by omega), give1_o _ 8 (by omega) (by omega)]) (by rw [work1_o _ 2 (by omega) (by omega), give1_2]) (by rw [work1_o _ 7 (by omega) (by omega), give1_o _ 7 (by omega) (by omega)]; omega) (by exact hs)) [0, 10, 11, 12, 13, 14, 4, 5, 6, 16, 17, 18] [1, 2, 3, 7, 8, 9, 15] 0 rfl rfl gX7_steps_X7_finishes rfl ⟨rfl, by decide +kernel⟩ ⟨by decide, by decide⟩ rfl rfl rfl rfl rfl (by decide) rfl (by decide) (by decide) (fun _ h => absurd h List.not_mem_nil) dX7_steps_134 rfl (Nat.le_of_ble_eq_true rfl) ⟨by decide, by decide⟩ (fun u p_18 => ?_)
                obtain ⟨cc, gdd, hfe, hfw, rfl⟩ := p_18
                refine g_perm (ws1 := [(m0, oo 7 (fMo ra mm nf ti so_12 ta_13 (if gdd = 0 then go else go + 1) sl lo (if gdd = 1 ∧ cn < 200 then cn + 1 else cn) lx ly pm pi)), (ra 15, aI E 8 fm), (ra 16, aI E 8 fa), (ra 17, aI E 8 fb), (ra 12, aI E 6 (up (fun j => g j 7) k (cc 7))), (ra 13, aI E 6 (up (fun j => g j 8) k (cc 8))), (ra 11, aI E 6 (up (up (fun j => wkOf (g j)) k (wkOf (work1 (g k)))) k (if cc 2 = 1 then 100 else -1))), (ra 5, aI E 6 gp_14), (ra 4, aI E 6 (fun j => S j 3)), (ra 1, aI E 6 (fun j => S j 0)), (ra 2, aI E 6 (fun j => S j 1)), (ra 3, aI E 6 (fun j => S j 2)), (ra 7, aI E 6 (up (fun j => g j 4) k (cc 4))), (ra 8, aI E 6 (up (fun j => g j 5) k (cc 5))), (ra 9, aI E 6 (up (fun j => g j 6) k (cc 6))), (ra 10, aI E 6 (fun j => g j 10)), (ra 26, aI E 200 (if gdd = 1 ∧ cn < 200 then up lt cn lo else lt)), (ra 27, aI E 200 (if gdd = 1 ∧ cn < 200 then up bo cn (-4) else bo)), (ra 28, aI E 200 (if gdd = 1 ∧ cn < 200 then up wg cn (-4) else wg))]) [7, 0, 1, 2, 13, 14, 15, 3, 4, 5, 8, 9, 10, 11, 12, 6, 16, 17, 18] rfl (by decide) rfl ?_
                refine g_aload_n 0 dX7_steps_137 rfl rfl ?_
                refine g_get (C := RX7) (T := TX7) (N := 43) 0 10 (fun _ h => List.mem_cons_of_mem _ (List.mem_append_right _ h)) (List.mem_of_getElem? (i := 8) rfl) rfl rfl (by decide) rfl rfl dX7_steps_138 ?_
                refine g_iload_n 1 dX7_steps_141 rfl rfl ?_
                refine g_dup2 dX7_steps_142 rfl rfl ?_
                refine g_iald 15 dX7_steps_143 rfl (by decide) (by omega) (by omega) ?_
                refine g_top (y := iI (g k 10)) rfl ?_
                refine g_iconst dX7_steps_144 ?_
                refine g_iadd dX7_steps_145 ?_
                refine g_iast (ws1 := [(m0, oo 7 (fMo ra mm nf ti so_12 ta_13 (if gdd = 0 then go else go + 1) sl lo (if gdd = 1 ∧ cn < 200 then cn + 1 else cn) lx ly pm pi)), (ra 15, aI E 8 fm), (ra 16, aI E 8 fa), (ra 17, aI E 8 fb), (ra 12, aI E 6 (up (fun j => g j 7) k (cc 7))), (ra 13, aI E 6 (up (fun j => g j 8) k (cc 8))), (ra 11, aI E 6 (up (up (fun j => wkOf (g j)) k (wkOf (work1 (g k)))) k (if cc 2 = 1 then 100 else -1))), (ra 5, aI E 6 gp_14), (ra 4, aI E 6 (fun j => S j 3)), (ra 1, aI E 6 (fun j => S j 0)), (ra 2, aI E 6 (fun j => S j 1)), (ra 3, aI E 6 (fun j => S j 2)), (ra 7, aI E 6 (up (fun j => g j 4) k (cc 4))), (ra 8, aI E 6 (up (fun j => g j 5) k (cc 5))), (ra 9, aI E 6 (up (fun j => g j 6) k (cc 6))), (ra 10, aI E 6 (up (fun j => g j 10) k ((g k 10) + 1))), (ra 26, aI E 200 (if gdd = 1 ∧ cn < 200 then up lt cn lo else lt)), (ra 27, aI E 200 (if gdd = 1 ∧ cn < 200 then up bo cn (-4) else bo)), (ra 28, aI E 200 (if gdd = 1 ∧ cn < 200 then up wg cn (-4) else wg))]) 15 dX7_steps_146 rfl rfl (by decide) (by omega) (by omega) ?_
                refine g_iconst dX7_steps_147 ?_
                exact g_iret hRet dX7_steps_148 rfl ⟨3, cc, tkw, gdd, so_12, ta_13, gp_14, (up (up (fun j => wkOf (g j)) k (wkOf (work1 (g k)))) k (if cc 2 = 1 then 100 else -1)), (up (fun j => g j 4) k (cc 4)), (up (fun j => g j 5) k (cc 5)), (up (fun j => g j 6) k (cc 6)), (up (fun j => g j 7) k (cc 7)), (up (fun j => g j 8) k (cc 8)), (up (fun j => g j 10) k ((g k 10) + 1)), (by first | (exfalso; omega) | (unfold sStep; rw [if_neg hflt, if_neg (by omega), if_neg (by omega), if_neg (by intro q; have q3 := hft.2.mpr (by rw [hav]; exact q.2); omega)]; refine ⟨rfl, ?_, ?_⟩; (first | (rw [if_pos (by omega)]; omega) | (rw [if_neg (by omega)]; omega) | rw [if_pos (by omega)] | rw [if_neg (by omega)]); unfold sFin; rw [if_neg (by rw [work1_3]; omega)]; exact hfe)), (by exact hft2), (by rw [← (gapN_c (c := give1 (g k)) (by rw [(sEnd_f hfe).1, work1_o _ 0 (by omega) (by omega)]))]; rw [hft3]; exact gapN_tk), (by rw [up_up, ← hfw.1]), (by exact ⟨rfl, rfl, rfl, rfl, rfl⟩), (by rw [if_pos rfl]; congr 1; rw [(sEnd_f hfe).2, work1_o _ 10 (by omega) (by omega), give1_o _ 10 (by omega) (by omega)]), (by exact hfw.2), rfl, rfl⟩
      · have hU_19 : up (fun j => g j 0) k (give1 (g k) 0) = (fun j => g j 0) := by rw [give1_0]; first | (rw [if_pos (by omega)]; done) | (rw [if_neg (by omega)]; exact up_id (fun j => g j 0) k)
        have hU_20 : up (fun j => wkOf (g j)) k (wkOf (give1 (g k))) = (fun j => wkOf (g j)) := by rw [wk_g hc]; first | (rw [if_neg (by omega)]; done) | exact up_same (by show wkOf (g k) = _; have w1 := hW.2.1; have w2 := hW.2.2.1; split <;> omega)
        refine g_as (ws1 := [(m0, oo 7 (fMo ra mm nf ti so ta go sl lo cn lx ly pm pi)), (ra 15, aI E 8 fm), (ra 16, aI E 8 fa), (ra 17, aI E 8 fb), (ra 12, aI E 6 (fun j => g j 7)), (ra 13, aI E 6 (fun j => g j 8)), (ra 11, aI E 6 (up (fun j => wkOf (g j)) k (wkOf (give1 (g k))))), (ra 5, aI E 6 (up (fun j => g j 0) k (give1 (g k) 0))), (ra 4, aI E 6 (fun j => S j 3)), (ra 1, aI E 6 (fun j => S j 0)), (ra 2, aI E 6 (fun j => S j 1)), (ra 3, aI E 6 (fun j => S j 2)), (ra 7, aI E 6 (fun j => g j 4)), (ra 8, aI E 6 (fun j => g j 5)), (ra 9, aI E 6 (fun j => g j 6)), (ra 10, aI E 6 (fun j => g j 10)), (ra 26, aI E 200 lt), (ra 27, aI E 200 bo), (ra 28, aI E 200 wg)]) ?_ (by rw [hU_19, hU_20]) rfl rfl
        have hwg := wk_g hc
        have hgp : ∀ j, 0 ≤ j → j < 6 → 0 ≤ up (fun j => g j 0) k (give1 (g k) 0) j ∧ up (fun j => g j 0) k (give1 (g k) 0) j ≤ 20 := by intro j j0 j1; unfold up; rw [give1_0]; have q8 := hgr k (by omega) (by omega); have q9 := hgr j j0 j1; have q7 := hs.2.2.2; split <;> (try split) <;> omega
        refine g_aload_n 0 dX7_steps_81 rfl rfl ?_
        refine g_get (C := RX7) (T := TX7) (N := 43) 0 11 (fun _ h => List.mem_cons_of_mem _ (List.mem_append_right _ h)) (List.mem_of_getElem? (i := 4) rfl) rfl rfl (by decide) rfl rfl dX7_steps_82 ?_
        refine g_iload_n 1 dX7_steps_85 rfl rfl ?_
        refine g_iald 6 dX7_steps_86 rfl (by decide) (by omega) (by omega) ?_
        refine g_top (y := iI (wkOf (give1 (g k)))) (congrArg iI (up_s _ _ _)) ?_
        refine g_if_ge (tgt := 107) (by unfold R32; omega) dX7_steps_87 rfl (fun c_21 => ?_) (fun c_21 => ?_)
        · refine g_aload_n 0 dX7_steps_107 rfl rfl ?_
          refine g_get (C := RX7) (T := TX7) (N := 43) 0 11 (fun _ h => List.mem_cons_of_mem _ (List.mem_append_right _ h)) (List.mem_of_getElem? (i := 4) rfl) rfl rfl (by decide) rfl rfl dX7_steps_108 ?_
          refine g_iload_n 1 dX7_steps_111 rfl rfl ?_
          refine g_dup2 dX7_steps_112 rfl rfl ?_
          refine g_iald 6 dX7_steps_113 rfl (by decide) (by omega) (by omega) ?_
          refine g_top (y := iI (wkOf (give1 (g k)))) (congrArg iI (up_s _ _ _)) ?_
          refine g_iconst dX7_steps_114 ?_
          refine g_iadd dX7_steps_115 ?_
          refine g_iast (ws1 := [(m0, oo 7 (fMo ra mm nf ti so ta go sl lo cn lx ly pm pi)), (ra 15, aI E 8 fm), (ra 16, aI E 8 fa), (ra 17, aI E 8 fb), (ra 12, aI E 6 (fun j => g j 7)), (ra 13, aI E 6 (fun j => g j 8)), (ra 11, aI E 6 (up (up (fun j => wkOf (g j)) k (wkOf (give1 (g k)))) k ((wkOf (give1 (g k))) + 1))), (ra 5, aI E 6 (up (fun j => g j 0) k (give1 (g k) 0))), (ra 4, aI E 6 (fun j => S j 3)), (ra 1, aI E 6 (fun j => S j 0)), (ra 2, aI E 6 (fun j => S j 1)), (ra 3, aI E 6 (fun j => S j 2)), (ra 7, aI E 6 (fun j => g j 4)), (ra 8, aI E 6 (fun j => g j 5)), (ra 9, aI E 6 (fun j => g j 6)), (ra 10, aI E 6 (fun j => g j 10)), (ra 26, aI E 200 lt), (ra 27, aI E 200 bo), (ra 28, aI E 200 wg)]) 6 dX7_steps_116 rfl rfl (by decide) (by omega) (by omega) ?_
          have hU_22 : (up (fun j => wkOf (g j)) k (wkOf (work1 (g k)))) = (up (up (fun j => wkOf (g j)) k (wkOf (give1 (g k)))) k ((wkOf (give1 (g k))) + 1)) := by (repeat rw [up_up]); rw [wk_w hc]; congr 1; first | omega | (rw [wk_g hc, if_pos (by omega)])
          refine g_as (ws1 := [(m0, oo 7 (fMo ra mm nf ti so ta go sl lo cn lx ly pm pi)), (ra 15, aI E 8 fm), (ra 16, aI E 8 fa), (ra 17, aI E 8 fb), (ra 12, aI E 6 (fun j => g j 7)), (ra 13, aI E 6 (fun j => g j 8)), (ra 11, aI E 6 (up (fun j => wkOf (g j)) k (wkOf (work1 (g k))))), (ra 5, aI E 6 (up (fun j => g j 0) k (give1 (g k) 0))), (ra 4, aI E 6 (fun j => S j 3)), (ra 1, aI E 6 (fun j => S j 0)), (ra 2, aI E 6 (fun j => S j 1)), (ra 3, aI E 6 (fun j => S j 2)), (ra 7, aI E 6 (fun j => g j 4)), (ra 8, aI E 6 (fun j => g j 5)), (ra 9, aI E 6 (fun j => g j 6)), (ra 10, aI E 6 (fun j => g j 10)), (ra 26, aI E 200 lt), (ra 27, aI E 200 bo), (ra 28, aI E 200 wg)]) ?_ (by rw [hU_22]) rfl rfl
          have hww := wk_w hc
          refine g_aload_n 0 dX7_steps_117 rfl rfl ?_
          refine g_get (C := RX7) (T := TX7) (N := 43) 0 11 (fun _ h => List.mem_cons_of_mem _ (List.mem_append_right _ h)) (List.mem_of_getElem? (i := 4) rfl) rfl rfl (by decide) rfl rfl dX7_steps_118 ?_
          refine g_iload_n 1 dX7_steps_121 rfl rfl ?_
          refine g_iald 6 dX7_steps_122 rfl (by decide) (by omega) (by omega) ?_
          refine g_top (y := iI (wkOf (work1 (g k)))) (congrArg iI (up_s _ _ _)) ?_
          refine g_aload_n 0 dX7_steps_123 rfl rfl ?_
          refine g_get (C := RX7) (T := TX7) (N := 43) 0 1 (fun _ h => List.mem_cons_of_mem _ (List.mem_append_right _ h)) (List.mem_of_getElem? (i := 7) rfl) rfl rfl (by decide) rfl rfl dX7_steps_124 ?_
          refine g_iload_n 1 dX7_steps_127 rfl rfl ?_
          refine g_iald 9 dX7_steps_128 rfl (by decide) (by omega) (by omega) ?_
          refine g_top (y := iI (S k 0)) rfl ?_
          refine g_icmp_lt (tgt := 137) (by unfold R32; omega) (by unfold R32; omega) dX7_steps_129 rfl (fun c_23 => ?_) (fun c_23 => ?_)
          · refine g_aload_n 0 dX7_steps_137 rfl rfl ?_
            refine g_get (C := RX7) (T := TX7) (N := 43) 0 10 (fun _ h => List.mem_cons_of_mem _ (List.mem_append_right _ h)) (List.mem_of_getElem? (i := 8) rfl) rfl rfl (by decide) rfl rfl dX7_steps_138 ?_
            refine g_iload_n 1 dX7_steps_141 rfl rfl ?_
            refine g_dup2 dX7_steps_142 rfl rfl ?_
            refine g_iald 15 dX7_steps_143 rfl (by decide) (by omega) (by omega) ?_
            refine g_top (y := iI (g k 10)) rfl ?_
            refine g_iconst dX7_steps_144 ?_
            refine g_iadd dX7_steps_145 ?_
            refine g_iast (ws1 := [(m0, oo 7 (fMo ra mm nf ti so ta go sl lo cn lx ly pm pi)), (ra 15, aI E 8 fm), (ra 16, aI E 8 fa), (ra 17, aI E 8 fb), (ra 12, aI E 6 (fun j => g j 7)), (ra 13, aI E 6 (fun j => g j 8)), (ra 11, aI E 6 (up (fun j => wkOf (g j)) k (wkOf (work1 (g k))))), (ra 5, aI E 6 (up (fun j => g j 0) k (give1 (g k) 0))), (ra 4, aI E 6 (fun j => S j 3)), (ra 1, aI E 6 (fun j => S j 0)), (ra 2, aI E 6 (fun j => S j 1)), (ra 3, aI E 6 (fun j => S j 2)), (ra 7, aI E 6 (fun j => g j 4)), (ra 8, aI E 6 (fun j => g j 5)), (ra 9, aI E 6 (fun j => g j 6)), (ra 10, aI E 6 (up (fun j => g j 10) k ((g k 10) + 1))), (ra 26, aI E 200 lt), (ra 27, aI E 200 bo), (ra 28, aI E 200 wg)]) 15 dX7_steps_146 rfl rfl (by decide) (by omega) (by omega) ?_
            refine g_iconst dX7_steps_147 ?_
            exact g_iret hRet dX7_steps_148 rfl ⟨3, (work1 (g k)), 0, 0, so, ta, (up (fun j => g j 0) k (give1 (g k) 0)), (up (fun j => wkOf (g j)) k (wkOf (work1 (g k)))), (fun j => g j 4), (fun j => g j 5), (fun j => g j 6), (fun j => g j 7), (fun j => g j 8), (up (fun j => g j 10) k ((g k 10) + 1)), (by first | (exfalso; omega) | (unfold sStep; rw [if_neg hflt, if_neg (by omega), if_neg (by omega), if_neg (by omega)]; refine ⟨rfl, ?_, ?_⟩; (first | (rw [if_pos (by omega)]; omega) | (rw [if_neg (by omega)]; omega) | rw [if_pos (by omega)] | rw [if_neg (by omega)]); unfold sFin; rw [if_pos (by rw [work1_3]; omega)]; exact ⟨rfl, rfl⟩)), (by constructor <;> (split <;> rfl)), (by rw [← (gapN_c (c := give1 (g k)) (by rw [work1_o _ 0 (by omega) (by omega)]))]; exact gapN_0), (by rfl), (by exact ⟨colS (by rw [work1_o _ 4 (by omega) (by omega), give1_o _ 4 (by omega) (by omega)]), colS (by rw [work1_o _ 5 (by omega) (by omega), give1_o _ 5 (by omega) (by omega)]), colS (by rw [work1_o _ 6 (by omega) (by omega), give1_o _ 6 (by omega) (by omega)]), colS (by rw [work1_o _ 7 (by omega) (by omega), give1_o _ 7 (by omega) (by omega)]), colS (by rw [work1_o _ 8 (by omega) (by omega), give1_o _ 8 (by omega) (by omega)])⟩), (by rw [if_pos rfl]; congr 1; rw [work1_o _ 10 (by omega) (by omega), give1_o _ 10 (by omega) (by omega)]), (by omega), rfl, rfl⟩
          · refine g_aload_n 0 dX7_steps_132 rfl rfl ?_
            refine g_iload_n 1 dX7_steps_133 rfl rfl ?_
            refine g_callV_v (n := 1) (As := [.int (iI k)]) (wr := [(ra 15, aI E 8 fm), (ra 16, aI E 8 fa), (ra 17, aI E 8 fb), (ra 5, aI E 6 (up (fun j => g j 0) k (give1 (g k) 0))), (ra 4, aI E 6 (fun j => S j 3)), (ra 1, aI E 6 (fun j => S j 0)), (ra 10, aI E 6 (fun j => g j 10))]) (C := RX7) [] (c_X7_finishes E m0 ra mm nf ti so ta go sl lo cn lx ly pm pi g S (work1 (g k)) (up (fun j => wkOf (g j)) k (wkOf (work1 (g k)))) lt bo wg k (by omega) (by omega) (by first | exact hso | (rw [hft2.1]; have q3 := hft.2; rw [hav] at q3; (repeat' split) <;> (try (rw [if_pos (by assumption)] at q3)) <;> omega)) (by omega) (by omega) (by omega) (by omega) (by exact (by rw [work1_o _ 4 (by omega) (by omega), give1_o _ 4 (by omega) (by omega)])) (by rw [work1_o _ 5 (by omega) (by omega), give1_o _ 5 (by omega) (by omega)]) (by rw [work1_o _ 6 (by omega) (by omega), give1_o _ 6 (by omega) (by omega)]) (by rw [work1_o _ 7 (by omega) (by omega), give1_o _ 7 (by omega) (by omega)]) (by rw [work1_o _ 8 (by omega) (by omega), give1_o _ 8 (by omega) (by omega)]) (by rw [work1_o _ 2 (by omega) (by omega), give1_2]) (by rw [work1_o _ 7 (by omega) (by omega), give1_o _ 7 (by omega) (by omega)]; omega) (by exact hs)) [0, 10, 11, 12, 13, 14, 4, 5, 6, 16, 17, 18] [1, 2, 3, 7, 8, 9, 15] 0 rfl rfl gX7_steps_X7_finishes rfl ⟨rfl, by decide +kernel⟩ ⟨by decide, by decide⟩ rfl rfl rfl rfl rfl (by decide) rfl (by decide) (by decide) (fun _ h => absurd h List.not_mem_nil) dX7_steps_134 rfl (Nat.le_of_ble_eq_true rfl) ⟨by decide, by decide⟩ (fun u p_24 => ?_)
            obtain ⟨cc, gdd, hfe, hfw, rfl⟩ := p_24
            refine g_perm (ws1 := [(m0, oo 7 (fMo ra mm nf ti so ta (if gdd = 0 then go else go + 1) sl lo (if gdd = 1 ∧ cn < 200 then cn + 1 else cn) lx ly pm pi)), (ra 15, aI E 8 fm), (ra 16, aI E 8 fa), (ra 17, aI E 8 fb), (ra 12, aI E 6 (up (fun j => g j 7) k (cc 7))), (ra 13, aI E 6 (up (fun j => g j 8) k (cc 8))), (ra 11, aI E 6 (up (up (fun j => wkOf (g j)) k (wkOf (work1 (g k)))) k (if cc 2 = 1 then 100 else -1))), (ra 5, aI E 6 (up (fun j => g j 0) k (give1 (g k) 0))), (ra 4, aI E 6 (fun j => S j 3)), (ra 1, aI E 6 (fun j => S j 0)), (ra 2, aI E 6 (fun j => S j 1)), (ra 3, aI E 6 (fun j => S j 2)), (ra 7, aI E 6 (up (fun j => g j 4) k (cc 4))), (ra 8, aI E 6 (up (fun j => g j 5) k (cc 5))), (ra 9, aI E 6 (up (fun j => g j 6) k (cc 6))), (ra 10, aI E 6 (fun j => g j 10)), (ra 26, aI E 200 (if gdd = 1 ∧ cn < 200 then up lt cn lo else lt)), (ra 27, aI E 200 (if gdd = 1 ∧ cn < 200 then up bo cn (-4) else bo)), (ra 28, aI E 200 (if gdd = 1 ∧ cn < 200 then up wg cn (-4) else wg))]) [7, 0, 1, 2, 13, 14, 15, 3, 4, 5, 8, 9, 10, 11, 12, 6, 16, 17, 18] rfl (by decide) rfl ?_
            refine g_aload_n 0 dX7_steps_137 rfl rfl ?_
            refine g_get (C := RX7) (T := TX7) (N := 43) 0 10 (fun _ h => List.mem_cons_of_mem _ (List.mem_append_right _ h)) (List.mem_of_getElem? (i := 8) rfl) rfl rfl (by decide) rfl rfl dX7_steps_138 ?_
            refine g_iload_n 1 dX7_steps_141 rfl rfl ?_
            refine g_dup2 dX7_steps_142 rfl rfl ?_
            refine g_iald 15 dX7_steps_143 rfl (by decide) (by omega) (by omega) ?_
            refine g_top (y := iI (g k 10)) rfl ?_
            refine g_iconst dX7_steps_144 ?_
            refine g_iadd dX7_steps_145 ?_
            refine g_iast (ws1 := [(m0, oo 7 (fMo ra mm nf ti so ta (if gdd = 0 then go else go + 1) sl lo (if gdd = 1 ∧ cn < 200 then cn + 1 else cn) lx ly pm pi)), (ra 15, aI E 8 fm), (ra 16, aI E 8 fa), (ra 17, aI E 8 fb), (ra 12, aI E 6 (up (fun j => g j 7) k (cc 7))), (ra 13, aI E 6 (up (fun j => g j 8) k (cc 8))), (ra 11, aI E 6 (up (up (fun j => wkOf (g j)) k (wkOf (work1 (g k)))) k (if cc 2 = 1 then 100 else -1))), (ra 5, aI E 6 (up (fun j => g j 0) k (give1 (g k) 0))), (ra 4, aI E 6 (fun j => S j 3)), (ra 1, aI E 6 (fun j => S j 0)), (ra 2, aI E 6 (fun j => S j 1)), (ra 3, aI E 6 (fun j => S j 2)), (ra 7, aI E 6 (up (fun j => g j 4) k (cc 4))), (ra 8, aI E 6 (up (fun j => g j 5) k (cc 5))), (ra 9, aI E 6 (up (fun j => g j 6) k (cc 6))), (ra 10, aI E 6 (up (fun j => g j 10) k ((g k 10) + 1))), (ra 26, aI E 200 (if gdd = 1 ∧ cn < 200 then up lt cn lo else lt)), (ra 27, aI E 200 (if gdd = 1 ∧ cn < 200 then up bo cn (-4) else bo)), (ra 28, aI E 200 (if gdd = 1 ∧ cn < 200 then up wg cn (-4) else wg))]) 15 dX7_steps_146 rfl rfl (by decide) (by omega) (by omega) ?_
            refine g_iconst dX7_steps_147 ?_
            exact g_iret hRet dX7_steps_148 rfl ⟨3, cc, 0, gdd, so, ta, (up (fun j => g j 0) k (give1 (g k) 0)), (up (up (fun j => wkOf (g j)) k (wkOf (work1 (g k)))) k (if cc 2 = 1 then 100 else -1)), (up (fun j => g j 4) k (cc 4)), (up (fun j => g j 5) k (cc 5)), (up (fun j => g j 6) k (cc 6)), (up (fun j => g j 7) k (cc 7)), (up (fun j => g j 8) k (cc 8)), (up (fun j => g j 10) k ((g k 10) + 1)), (by first | (exfalso; omega) | (unfold sStep; rw [if_neg hflt, if_neg (by omega), if_neg (by omega), if_neg (by omega)]; refine ⟨rfl, ?_, ?_⟩; (first | (rw [if_pos (by omega)]; omega) | (rw [if_neg (by omega)]; omega) | rw [if_pos (by omega)] | rw [if_neg (by omega)]); unfold sFin; rw [if_neg (by rw [work1_3]; omega)]; exact hfe)), (by constructor <;> (split <;> rfl)), (by rw [← (gapN_c (c := give1 (g k)) (by rw [(sEnd_f hfe).1, work1_o _ 0 (by omega) (by omega)]))]; exact gapN_0), (by rw [up_up, ← hfw.1]), (by exact ⟨rfl, rfl, rfl, rfl, rfl⟩), (by rw [if_pos rfl]; congr 1; rw [(sEnd_f hfe).2, work1_o _ 10 (by omega) (by omega), give1_o _ 10 (by omega) (by omega)]), (by exact hfw.2), rfl, rfl⟩
        · refine g_aload_n 0 dX7_steps_90 rfl rfl ?_
          refine g_iload_n 1 dX7_steps_91 rfl rfl ?_
          refine g_callV_i (n := 1) (As := [.int (iI k)]) (wr := [(ra 15, aI E 8 fm), (ra 16, aI E 8 fa), (ra 17, aI E 8 fb), (ra 12, aI E 6 (fun j => g j 7)), (ra 13, aI E 6 (fun j => g j 8)), (ra 11, aI E 6 (up (fun j => wkOf (g j)) k (wkOf (give1 (g k))))), (ra 4, aI E 6 (fun j => S j 3)), (ra 1, aI E 6 (fun j => S j 0)), (ra 2, aI E 6 (fun j => S j 1)), (ra 3, aI E 6 (fun j => S j 2)), (ra 7, aI E 6 (fun j => g j 4)), (ra 8, aI E 6 (fun j => g j 5)), (ra 9, aI E 6 (fun j => g j 6)), (ra 10, aI E 6 (fun j => g j 10)), (ra 26, aI E 200 lt), (ra 27, aI E 200 bo), (ra 28, aI E 200 wg)]) (C := RX7) [] (c_X7_takes E m0 ra mm nf ti so ta go sl lo cn lx ly pm pi (up (fun j => g j 0) k (give1 (g k) 0)) k (by omega) (by omega) (by omega) (by omega) (by omega) (by omega) (by omega) (by exact hgp)) [0, 7] [1, 2, 3, 4, 5, 6, 8, 9, 10, 11, 12, 13, 14, 15, 16, 17, 18] 0 rfl rfl gX7_steps_X7_takes rfl ⟨rfl, by decide +kernel⟩ ⟨by decide, by decide⟩ rfl rfl rfl rfl rfl (by decide) rfl (by decide) (by decide) (fun _ h => absurd h List.not_mem_nil) dX7_steps_92 rfl (Nat.le_of_ble_eq_true rfl) ⟨by decide, by decide⟩ (fun r u p_25 => ?_)
          obtain ⟨tkw, so_26, ta_27, gp_28, hft, hft2, hft3, rfl, rfl⟩ := p_25
          refine g_perm (ws1 := [(m0, oo 7 (fMo ra mm nf ti so_26 ta_27 go sl lo cn lx ly pm pi)), (ra 15, aI E 8 fm), (ra 16, aI E 8 fa), (ra 17, aI E 8 fb), (ra 12, aI E 6 (fun j => g j 7)), (ra 13, aI E 6 (fun j => g j 8)), (ra 11, aI E 6 (up (fun j => wkOf (g j)) k (wkOf (give1 (g k))))), (ra 5, aI E 6 gp_28), (ra 4, aI E 6 (fun j => S j 3)), (ra 1, aI E 6 (fun j => S j 0)), (ra 2, aI E 6 (fun j => S j 1)), (ra 3, aI E 6 (fun j => S j 2)), (ra 7, aI E 6 (fun j => g j 4)), (ra 8, aI E 6 (fun j => g j 5)), (ra 9, aI E 6 (fun j => g j 6)), (ra 10, aI E 6 (fun j => g j 10)), (ra 26, aI E 200 lt), (ra 27, aI E 200 bo), (ra 28, aI E 200 wg)]) [17, 0, 1, 2, 3, 4, 5, 18, 6, 7, 8, 9, 10, 11, 12, 13, 14, 15, 16] rfl (by decide) rfl ?_
          have hav : (if k = 0 then so else up (fun j => g j 0) k (give1 (g k) 0) (k - 1)) = (if k = 0 then so else g (k - 1) 0) := by rw [up_n (fun j => g j 0) _ (show k - 1 ≠ k by omega)]
          have hav0 : 0 ≤ (if k = 0 then so else g (k - 1) 0) := by split; exact hso.1; exact (hgr (k - 1) (by omega) (by omega)).1
          refine g_if_ne (tgt := 100) (by unfold R32; omega) dX7_steps_95 rfl (fun c_29 => ?_) (fun c_29 => ?_)
          · refine g_iconst dX7_steps_98 ?_
            exact g_iret hRet dX7_steps_99 rfl ⟨4, (give1 (g k)), tkw, 0, so_26, ta_27, gp_28, (up (fun j => wkOf (g j)) k (wkOf (give1 (g k)))), (fun j => g j 4), (fun j => g j 5), (fun j => g j 6), (fun j => g j 7), (fun j => g j 8), (fun j => g j 10), (by unfold sStep; rw [if_neg hflt, if_neg (by omega), if_neg (by omega), if_pos (by rw [← hav]; have q3 := hft.2.mp (by omega); have q4 := hwg; refine ⟨?_, q3⟩; rw [hwg] at *; split at * <;> omega)]; exact ⟨rfl, rfl, by omega, rfl⟩), (by exact hft2), (by rw [hft3]; exact gapN_tk), (by rfl), (by exact ⟨colS (give1_o _ 4 (by omega) (by omega)), colS (give1_o _ 5 (by omega) (by omega)), colS (give1_o _ 6 (by omega) (by omega)), colS (give1_o _ 7 (by omega) (by omega)), colS (give1_o _ 8 (by omega) (by omega))⟩), (by rw [if_neg (by omega)]; exact colS (give1_o _ 10 (by omega) (by omega))), (by omega), rfl, rfl⟩
          · refine g_aload_n 0 dX7_steps_100 rfl rfl ?_
            refine g_get (C := RX7) (T := TX7) (N := 43) 0 11 (fun _ h => List.mem_cons_of_mem _ (List.mem_append_right _ h)) (List.mem_of_getElem? (i := 4) rfl) rfl rfl (by decide) rfl rfl dX7_steps_101 ?_
            refine g_iload_n 1 dX7_steps_104 rfl rfl ?_
            refine g_iconst dX7_steps_105 ?_
            refine g_iast (ws1 := [(m0, oo 7 (fMo ra mm nf ti so_26 ta_27 go sl lo cn lx ly pm pi)), (ra 15, aI E 8 fm), (ra 16, aI E 8 fa), (ra 17, aI E 8 fb), (ra 12, aI E 6 (fun j => g j 7)), (ra 13, aI E 6 (fun j => g j 8)), (ra 11, aI E 6 (up (up (fun j => wkOf (g j)) k (wkOf (give1 (g k)))) k 0)), (ra 5, aI E 6 gp_28), (ra 4, aI E 6 (fun j => S j 3)), (ra 1, aI E 6 (fun j => S j 0)), (ra 2, aI E 6 (fun j => S j 1)), (ra 3, aI E 6 (fun j => S j 2)), (ra 7, aI E 6 (fun j => g j 4)), (ra 8, aI E 6 (fun j => g j 5)), (ra 9, aI E 6 (fun j => g j 6)), (ra 10, aI E 6 (fun j => g j 10)), (ra 26, aI E 200 lt), (ra 27, aI E 200 bo), (ra 28, aI E 200 wg)]) 6 dX7_steps_106 rfl rfl (by decide) (by omega) (by omega) ?_
            refine g_aload_n 0 dX7_steps_107 rfl rfl ?_
            refine g_get (C := RX7) (T := TX7) (N := 43) 0 11 (fun _ h => List.mem_cons_of_mem _ (List.mem_append_right _ h)) (List.mem_of_getElem? (i := 4) rfl) rfl rfl (by decide) rfl rfl dX7_steps_108 ?_
            refine g_iload_n 1 dX7_steps_111 rfl rfl ?_
            refine g_dup2 dX7_steps_112 rfl rfl ?_
            refine g_iald 6 dX7_steps_113 rfl (by decide) (by omega) (by omega) ?_
            refine g_top (y := iI 0) (congrArg iI (up_s _ _ _)) ?_
            refine g_iconst dX7_steps_114 ?_
            refine g_iadd dX7_steps_115 ?_
            refine g_iast (ws1 := [(m0, oo 7 (fMo ra mm nf ti so_26 ta_27 go sl lo cn lx ly pm pi)), (ra 15, aI E 8 fm), (ra 16, aI E 8 fa), (ra 17, aI E 8 fb), (ra 12, aI E 6 (fun j => g j 7)), (ra 13, aI E 6 (fun j => g j 8)), (ra 11, aI E 6 (up (up (up (fun j => wkOf (g j)) k (wkOf (give1 (g k)))) k 0) k (0 + 1))), (ra 5, aI E 6 gp_28), (ra 4, aI E 6 (fun j => S j 3)), (ra 1, aI E 6 (fun j => S j 0)), (ra 2, aI E 6 (fun j => S j 1)), (ra 3, aI E 6 (fun j => S j 2)), (ra 7, aI E 6 (fun j => g j 4)), (ra 8, aI E 6 (fun j => g j 5)), (ra 9, aI E 6 (fun j => g j 6)), (ra 10, aI E 6 (fun j => g j 10)), (ra 26, aI E 200 lt), (ra 27, aI E 200 bo), (ra 28, aI E 200 wg)]) 6 dX7_steps_116 rfl rfl (by decide) (by omega) (by omega) ?_
            have hU_30 : (up (fun j => wkOf (g j)) k (wkOf (work1 (g k)))) = (up (up (up (fun j => wkOf (g j)) k (wkOf (give1 (g k)))) k 0) k (0 + 1)) := by (repeat rw [up_up]); rw [wk_w hc]; congr 1; first | omega | (rw [wk_g hc, if_pos (by omega)])
            refine g_as (ws1 := [(m0, oo 7 (fMo ra mm nf ti so_26 ta_27 go sl lo cn lx ly pm pi)), (ra 15, aI E 8 fm), (ra 16, aI E 8 fa), (ra 17, aI E 8 fb), (ra 12, aI E 6 (fun j => g j 7)), (ra 13, aI E 6 (fun j => g j 8)), (ra 11, aI E 6 (up (fun j => wkOf (g j)) k (wkOf (work1 (g k))))), (ra 5, aI E 6 gp_28), (ra 4, aI E 6 (fun j => S j 3)), (ra 1, aI E 6 (fun j => S j 0)), (ra 2, aI E 6 (fun j => S j 1)), (ra 3, aI E 6 (fun j => S j 2)), (ra 7, aI E 6 (fun j => g j 4)), (ra 8, aI E 6 (fun j => g j 5)), (ra 9, aI E 6 (fun j => g j 6)), (ra 10, aI E 6 (fun j => g j 10)), (ra 26, aI E 200 lt), (ra 27, aI E 200 bo), (ra 28, aI E 200 wg)]) ?_ (by rw [hU_30]) rfl rfl
            have hww := wk_w hc
            refine g_aload_n 0 dX7_steps_117 rfl rfl ?_
            refine g_get (C := RX7) (T := TX7) (N := 43) 0 11 (fun _ h => List.mem_cons_of_mem _ (List.mem_append_right _ h)) (List.mem_of_getElem? (i := 4) rfl) rfl rfl (by decide) rfl rfl dX7_steps_118 ?_
            refine g_iload_n 1 dX7_steps_121 rfl rfl ?_
            refine g_iald 6 dX7_steps_122 rfl (by decide) (by omega) (by omega) ?_
            refine g_top (y := iI (wkOf (work1 (g k)))) (congrArg iI (up_s _ _ _)) ?_
            refine g_aload_n 0 dX7_steps_123 rfl rfl ?_
            refine g_get (C := RX7) (T := TX7) (N := 43) 0 1 (fun _ h => List.mem_cons_of_mem _ (List.mem_append_right _ h)) (List.mem_of_getElem? (i := 7) rfl) rfl rfl (by decide) rfl rfl dX7_steps_124 ?_
            refine g_iload_n 1 dX7_steps_127 rfl rfl ?_
            refine g_iald 9 dX7_steps_128 rfl (by decide) (by omega) (by omega) ?_
            refine g_top (y := iI (S k 0)) rfl ?_
            refine g_icmp_lt (tgt := 137) (by unfold R32; omega) (by unfold R32; omega) dX7_steps_129 rfl (fun c_31 => ?_) (fun c_31 => ?_)
            · refine g_aload_n 0 dX7_steps_137 rfl rfl ?_
              refine g_get (C := RX7) (T := TX7) (N := 43) 0 10 (fun _ h => List.mem_cons_of_mem _ (List.mem_append_right _ h)) (List.mem_of_getElem? (i := 8) rfl) rfl rfl (by decide) rfl rfl dX7_steps_138 ?_
              refine g_iload_n 1 dX7_steps_141 rfl rfl ?_
              refine g_dup2 dX7_steps_142 rfl rfl ?_
              refine g_iald 15 dX7_steps_143 rfl (by decide) (by omega) (by omega) ?_
              refine g_top (y := iI (g k 10)) rfl ?_
              refine g_iconst dX7_steps_144 ?_
              refine g_iadd dX7_steps_145 ?_
              refine g_iast (ws1 := [(m0, oo 7 (fMo ra mm nf ti so_26 ta_27 go sl lo cn lx ly pm pi)), (ra 15, aI E 8 fm), (ra 16, aI E 8 fa), (ra 17, aI E 8 fb), (ra 12, aI E 6 (fun j => g j 7)), (ra 13, aI E 6 (fun j => g j 8)), (ra 11, aI E 6 (up (fun j => wkOf (g j)) k (wkOf (work1 (g k))))), (ra 5, aI E 6 gp_28), (ra 4, aI E 6 (fun j => S j 3)), (ra 1, aI E 6 (fun j => S j 0)), (ra 2, aI E 6 (fun j => S j 1)), (ra 3, aI E 6 (fun j => S j 2)), (ra 7, aI E 6 (fun j => g j 4)), (ra 8, aI E 6 (fun j => g j 5)), (ra 9, aI E 6 (fun j => g j 6)), (ra 10, aI E 6 (up (fun j => g j 10) k ((g k 10) + 1))), (ra 26, aI E 200 lt), (ra 27, aI E 200 bo), (ra 28, aI E 200 wg)]) 15 dX7_steps_146 rfl rfl (by decide) (by omega) (by omega) ?_
              refine g_iconst dX7_steps_147 ?_
              exact g_iret hRet dX7_steps_148 rfl ⟨3, (work1 (g k)), tkw, 0, so_26, ta_27, gp_28, (up (fun j => wkOf (g j)) k (wkOf (work1 (g k)))), (fun j => g j 4), (fun j => g j 5), (fun j => g j 6), (fun j => g j 7), (fun j => g j 8), (up (fun j => g j 10) k ((g k 10) + 1)), (by first | (exfalso; omega) | (unfold sStep; rw [if_neg hflt, if_neg (by omega), if_neg (by omega), if_neg (by intro q; have q3 := hft.2.mpr (by rw [hav]; exact q.2); omega)]; refine ⟨rfl, ?_, ?_⟩; (first | (rw [if_pos (by omega)]; omega) | (rw [if_neg (by omega)]; omega) | rw [if_pos (by omega)] | rw [if_neg (by omega)]); unfold sFin; rw [if_pos (by rw [work1_3]; omega)]; exact ⟨rfl, rfl⟩)), (by exact hft2), (by rw [← (gapN_c (c := give1 (g k)) (by rw [work1_o _ 0 (by omega) (by omega)]))]; rw [hft3]; exact gapN_tk), (by rfl), (by exact ⟨colS (by rw [work1_o _ 4 (by omega) (by omega), give1_o _ 4 (by omega) (by omega)]), colS (by rw [work1_o _ 5 (by omega) (by omega), give1_o _ 5 (by omega) (by omega)]), colS (by rw [work1_o _ 6 (by omega) (by omega), give1_o _ 6 (by omega) (by omega)]), colS (by rw [work1_o _ 7 (by omega) (by omega), give1_o _ 7 (by omega) (by omega)]), colS (by rw [work1_o _ 8 (by omega) (by omega), give1_o _ 8 (by omega) (by omega)])⟩), (by rw [if_pos rfl]; congr 1; rw [work1_o _ 10 (by omega) (by omega), give1_o _ 10 (by omega) (by omega)]), (by omega), rfl, rfl⟩
            · refine g_aload_n 0 dX7_steps_132 rfl rfl ?_
              refine g_iload_n 1 dX7_steps_133 rfl rfl ?_
              refine g_callV_v (n := 1) (As := [.int (iI k)]) (wr := [(ra 15, aI E 8 fm), (ra 16, aI E 8 fa), (ra 17, aI E 8 fb), (ra 5, aI E 6 gp_28), (ra 4, aI E 6 (fun j => S j 3)), (ra 1, aI E 6 (fun j => S j 0)), (ra 10, aI E 6 (fun j => g j 10))]) (C := RX7) [] (c_X7_finishes E m0 ra mm nf ti so_26 ta_27 go sl lo cn lx ly pm pi g S (work1 (g k)) (up (fun j => wkOf (g j)) k (wkOf (work1 (g k)))) lt bo wg k (by omega) (by omega) (by first | exact hso | (rw [hft2.1]; have q3 := hft.2; rw [hav] at q3; (repeat' split) <;> (try (rw [if_pos (by assumption)] at q3)) <;> omega)) (by omega) (by omega) (by omega) (by omega) (by exact (by rw [work1_o _ 4 (by omega) (by omega), give1_o _ 4 (by omega) (by omega)])) (by rw [work1_o _ 5 (by omega) (by omega), give1_o _ 5 (by omega) (by omega)]) (by rw [work1_o _ 6 (by omega) (by omega), give1_o _ 6 (by omega) (by omega)]) (by rw [work1_o _ 7 (by omega) (by omega), give1_o _ 7 (by omega) (by omega)]) (by rw [work1_o _ 8 (by omega) (by omega), give1_o _ 8 (by omega) (by omega)]) (by rw [work1_o _ 2 (by omega) (by omega), give1_2]) (by rw [work1_o _ 7 (by omega) (by omega), give1_o _ 7 (by omega) (by omega)]; omega) (by exact hs)) [0, 10, 11, 12, 13, 14, 4, 5, 6, 16, 17, 18] [1, 2, 3, 7, 8, 9, 15] 0 rfl rfl gX7_steps_X7_finishes rfl ⟨rfl, by decide +kernel⟩ ⟨by decide, by decide⟩ rfl rfl rfl rfl rfl (by decide) rfl (by decide) (by decide) (fun _ h => absurd h List.not_mem_nil) dX7_steps_134 rfl (Nat.le_of_ble_eq_true rfl) ⟨by decide, by decide⟩ (fun u p_32 => ?_)
              obtain ⟨cc, gdd, hfe, hfw, rfl⟩ := p_32
              refine g_perm (ws1 := [(m0, oo 7 (fMo ra mm nf ti so_26 ta_27 (if gdd = 0 then go else go + 1) sl lo (if gdd = 1 ∧ cn < 200 then cn + 1 else cn) lx ly pm pi)), (ra 15, aI E 8 fm), (ra 16, aI E 8 fa), (ra 17, aI E 8 fb), (ra 12, aI E 6 (up (fun j => g j 7) k (cc 7))), (ra 13, aI E 6 (up (fun j => g j 8) k (cc 8))), (ra 11, aI E 6 (up (up (fun j => wkOf (g j)) k (wkOf (work1 (g k)))) k (if cc 2 = 1 then 100 else -1))), (ra 5, aI E 6 gp_28), (ra 4, aI E 6 (fun j => S j 3)), (ra 1, aI E 6 (fun j => S j 0)), (ra 2, aI E 6 (fun j => S j 1)), (ra 3, aI E 6 (fun j => S j 2)), (ra 7, aI E 6 (up (fun j => g j 4) k (cc 4))), (ra 8, aI E 6 (up (fun j => g j 5) k (cc 5))), (ra 9, aI E 6 (up (fun j => g j 6) k (cc 6))), (ra 10, aI E 6 (fun j => g j 10)), (ra 26, aI E 200 (if gdd = 1 ∧ cn < 200 then up lt cn lo else lt)), (ra 27, aI E 200 (if gdd = 1 ∧ cn < 200 then up bo cn (-4) else bo)), (ra 28, aI E 200 (if gdd = 1 ∧ cn < 200 then up wg cn (-4) else wg))]) [7, 0, 1, 2, 13, 14, 15, 3, 4, 5, 8, 9, 10, 11, 12, 6, 16, 17, 18] rfl (by decide) rfl ?_
              refine g_aload_n 0 dX7_steps_137 rfl rfl ?_
              refine g_get (C := RX7) (T := TX7) (N := 43) 0 10 (fun _ h => List.mem_cons_of_mem _ (List.mem_append_right _ h)) (List.mem_of_getElem? (i := 8) rfl) rfl rfl (by decide) rfl rfl dX7_steps_138 ?_
              refine g_iload_n 1 dX7_steps_141 rfl rfl ?_
              refine g_dup2 dX7_steps_142 rfl rfl ?_
              refine g_iald 15 dX7_steps_143 rfl (by decide) (by omega) (by omega) ?_
              refine g_top (y := iI (g k 10)) rfl ?_
              refine g_iconst dX7_steps_144 ?_
              refine g_iadd dX7_steps_145 ?_
              refine g_iast (ws1 := [(m0, oo 7 (fMo ra mm nf ti so_26 ta_27 (if gdd = 0 then go else go + 1) sl lo (if gdd = 1 ∧ cn < 200 then cn + 1 else cn) lx ly pm pi)), (ra 15, aI E 8 fm), (ra 16, aI E 8 fa), (ra 17, aI E 8 fb), (ra 12, aI E 6 (up (fun j => g j 7) k (cc 7))), (ra 13, aI E 6 (up (fun j => g j 8) k (cc 8))), (ra 11, aI E 6 (up (up (fun j => wkOf (g j)) k (wkOf (work1 (g k)))) k (if cc 2 = 1 then 100 else -1))), (ra 5, aI E 6 gp_28), (ra 4, aI E 6 (fun j => S j 3)), (ra 1, aI E 6 (fun j => S j 0)), (ra 2, aI E 6 (fun j => S j 1)), (ra 3, aI E 6 (fun j => S j 2)), (ra 7, aI E 6 (up (fun j => g j 4) k (cc 4))), (ra 8, aI E 6 (up (fun j => g j 5) k (cc 5))), (ra 9, aI E 6 (up (fun j => g j 6) k (cc 6))), (ra 10, aI E 6 (up (fun j => g j 10) k ((g k 10) + 1))), (ra 26, aI E 200 (if gdd = 1 ∧ cn < 200 then up lt cn lo else lt)), (ra 27, aI E 200 (if gdd = 1 ∧ cn < 200 then up bo cn (-4) else bo)), (ra 28, aI E 200 (if gdd = 1 ∧ cn < 200 then up wg cn (-4) else wg))]) 15 dX7_steps_146 rfl rfl (by decide) (by omega) (by omega) ?_
              refine g_iconst dX7_steps_147 ?_
              exact g_iret hRet dX7_steps_148 rfl ⟨3, cc, tkw, gdd, so_26, ta_27, gp_28, (up (up (fun j => wkOf (g j)) k (wkOf (work1 (g k)))) k (if cc 2 = 1 then 100 else -1)), (up (fun j => g j 4) k (cc 4)), (up (fun j => g j 5) k (cc 5)), (up (fun j => g j 6) k (cc 6)), (up (fun j => g j 7) k (cc 7)), (up (fun j => g j 8) k (cc 8)), (up (fun j => g j 10) k ((g k 10) + 1)), (by first | (exfalso; omega) | (unfold sStep; rw [if_neg hflt, if_neg (by omega), if_neg (by omega), if_neg (by intro q; have q3 := hft.2.mpr (by rw [hav]; exact q.2); omega)]; refine ⟨rfl, ?_, ?_⟩; (first | (rw [if_pos (by omega)]; omega) | (rw [if_neg (by omega)]; omega) | rw [if_pos (by omega)] | rw [if_neg (by omega)]); unfold sFin; rw [if_neg (by rw [work1_3]; omega)]; exact hfe)), (by exact hft2), (by rw [← (gapN_c (c := give1 (g k)) (by rw [(sEnd_f hfe).1, work1_o _ 0 (by omega) (by omega)]))]; rw [hft3]; exact gapN_tk), (by rw [up_up, ← hfw.1]), (by exact ⟨rfl, rfl, rfl, rfl, rfl⟩), (by rw [if_pos rfl]; congr 1; rw [(sEnd_f hfe).2, work1_o _ 10 (by omega) (by omega), give1_o _ 10 (by omega) (by omega)]), (by exact hfw.2), rfl, rfl⟩
    · refine g_aload_n 0 dX7_steps_19 rfl rfl ?_
      refine g_get (C := RX7) (T := TX7) (N := 43) 0 18 (fun _ h => List.mem_cons_of_mem _ (List.mem_append_right _ h)) (List.mem_of_getElem? (i := 2) rfl) rfl rfl (by decide) rfl rfl dX7_steps_20 ?_
      refine g_aload_n 0 dX7_steps_23 rfl rfl ?_
      refine g_get (C := RX7) (T := TX7) (N := 43) 0 13 (fun _ h => List.mem_cons_of_mem _ (List.mem_append_right _ h)) (List.mem_of_getElem? (i := 3) rfl) rfl rfl (by decide) rfl rfl dX7_steps_24 ?_
      refine g_iload_n 1 dX7_steps_27 rfl rfl ?_
      refine g_iald 5 dX7_steps_28 rfl (by decide) (by omega) (by omega) ?_
      refine g_top (y := iI (g k 8)) rfl ?_
      refine g_iconst dX7_steps_29 ?_
      refine g_iadd dX7_steps_30 ?_
      refine g_icmp_lt (tgt := 36) (by unfold R32; omega) (by unfold R32; omega) dX7_steps_31 rfl (fun c_33 => ?_) (fun c_33 => ?_)
      · refine g_aload_n 0 dX7_steps_36 rfl rfl ?_
        refine g_get (C := RX7) (T := TX7) (N := 43) 0 11 (fun _ h => List.mem_cons_of_mem _ (List.mem_append_right _ h)) (List.mem_of_getElem? (i := 4) rfl) rfl rfl (by decide) rfl rfl dX7_steps_37 ?_
        refine g_iload_n 1 dX7_steps_40 rfl rfl ?_
        refine g_iald 6 dX7_steps_41 rfl (by decide) (by omega) (by omega) ?_
        refine g_top (y := iI (wkOf (g k))) rfl ?_
        refine g_bipush dX7_steps_42 rfl ?_
        refine g_icmp_ne (tgt := 81) (by unfold R32; omega) (by unfold R32; omega) dX7_steps_44 rfl (fun c_34 => ?_) (fun c_34 => ?_)
        · refine g_aload_n 0 dX7_steps_47 rfl rfl ?_
          refine g_get (C := RX7) (T := TX7) (N := 43) 0 5 (fun _ h => List.mem_cons_of_mem _ (List.mem_append_right _ h)) (List.mem_of_getElem? (i := 5) rfl) rfl rfl (by decide) rfl rfl dX7_steps_48 ?_
          refine g_iload_n 1 dX7_steps_51 rfl rfl ?_
          refine g_iald 7 dX7_steps_52 rfl (by decide) (by omega) (by omega) ?_
          refine g_top (y := iI (g k 0)) rfl ?_
          refine g_aload_n 0 dX7_steps_53 rfl rfl ?_
          refine g_get (C := RX7) (T := TX7) (N := 43) 0 4 (fun _ h => List.mem_cons_of_mem _ (List.mem_append_right _ h)) (List.mem_of_getElem? (i := 6) rfl) rfl rfl (by decide) rfl rfl dX7_steps_54 ?_
          refine g_iload_n 1 dX7_steps_57 rfl rfl ?_
          refine g_iald 8 dX7_steps_58 rfl (by decide) (by omega) (by omega) ?_
          refine g_top (y := iI (S k 3)) rfl ?_
          refine g_icmp_ne (tgt := 64) (by unfold R32; omega) (by unfold R32; omega) dX7_steps_59 rfl (fun c_35 => ?_) (fun c_35 => ?_)
          · refine g_iconst dX7_steps_62 ?_
            exact g_iret hRet dX7_steps_63 rfl ⟨2, (g k), 0, 0, so, ta, (fun j => g j 0), (fun j => wkOf (g j)), (fun j => g j 4), (fun j => g j 5), (fun j => g j 6), (fun j => g j 7), (fun j => g j 8), (fun j => g j 10), (by unfold sStep; rw [if_neg hflt, if_neg (by omega), if_pos (by omega)]; exact ⟨rfl, rfl, rfl, rfl⟩), (by constructor <;> (split <;> rfl)), (by exact gapN_id rfl), (by exact (up_id (fun j => wkOf (g j)) k).symm), (by exact ⟨colS rfl, colS rfl, colS rfl, colS rfl, colS rfl⟩), (by rw [if_neg (by omega)]; exact colS rfl), (by omega), rfl, rfl⟩
          · refine g_aload_n 0 dX7_steps_64 rfl rfl ?_
            refine g_get (C := RX7) (T := TX7) (N := 43) 0 5 (fun _ h => List.mem_cons_of_mem _ (List.mem_append_right _ h)) (List.mem_of_getElem? (i := 5) rfl) rfl rfl (by decide) rfl rfl dX7_steps_65 ?_
            refine g_iload_n 1 dX7_steps_68 rfl rfl ?_
            refine g_dup2 dX7_steps_69 rfl rfl ?_
            refine g_iald 7 dX7_steps_70 rfl (by decide) (by omega) (by omega) ?_
            refine g_top (y := iI (g k 0)) rfl ?_
            refine g_iconst dX7_steps_71 ?_
            refine g_iadd dX7_steps_72 ?_
            refine g_iast (ws1 := [(m0, oo 7 (fMo ra mm nf ti so ta go sl lo cn lx ly pm pi)), (ra 15, aI E 8 fm), (ra 16, aI E 8 fa), (ra 17, aI E 8 fb), (ra 12, aI E 6 (fun j => g j 7)), (ra 13, aI E 6 (fun j => g j 8)), (ra 11, aI E 6 (fun j => wkOf (g j))), (ra 5, aI E 6 (up (fun j => g j 0) k ((g k 0) + 1))), (ra 4, aI E 6 (fun j => S j 3)), (ra 1, aI E 6 (fun j => S j 0)), (ra 2, aI E 6 (fun j => S j 1)), (ra 3, aI E 6 (fun j => S j 2)), (ra 7, aI E 6 (fun j => g j 4)), (ra 8, aI E 6 (fun j => g j 5)), (ra 9, aI E 6 (fun j => g j 6)), (ra 10, aI E 6 (fun j => g j 10)), (ra 26, aI E 200 lt), (ra 27, aI E 200 bo), (ra 28, aI E 200 wg)]) 7 dX7_steps_73 rfl rfl (by decide) (by omega) (by omega) ?_
            refine g_aload_n 0 dX7_steps_74 rfl rfl ?_
            refine g_get (C := RX7) (T := TX7) (N := 43) 0 11 (fun _ h => List.mem_cons_of_mem _ (List.mem_append_right _ h)) (List.mem_of_getElem? (i := 4) rfl) rfl rfl (by decide) rfl rfl dX7_steps_75 ?_
            refine g_iload_n 1 dX7_steps_78 rfl rfl ?_
            refine g_iconst dX7_steps_79 ?_
            refine g_iast (ws1 := [(m0, oo 7 (fMo ra mm nf ti so ta go sl lo cn lx ly pm pi)), (ra 15, aI E 8 fm), (ra 16, aI E 8 fa), (ra 17, aI E 8 fb), (ra 12, aI E 6 (fun j => g j 7)), (ra 13, aI E 6 (fun j => g j 8)), (ra 11, aI E 6 (up (fun j => wkOf (g j)) k (-1))), (ra 5, aI E 6 (up (fun j => g j 0) k ((g k 0) + 1))), (ra 4, aI E 6 (fun j => S j 3)), (ra 1, aI E 6 (fun j => S j 0)), (ra 2, aI E 6 (fun j => S j 1)), (ra 3, aI E 6 (fun j => S j 2)), (ra 7, aI E 6 (fun j => g j 4)), (ra 8, aI E 6 (fun j => g j 5)), (ra 9, aI E 6 (fun j => g j 6)), (ra 10, aI E 6 (fun j => g j 10)), (ra 26, aI E 200 lt), (ra 27, aI E 200 bo), (ra 28, aI E 200 wg)]) 6 dX7_steps_80 rfl rfl (by decide) (by omega) (by omega) ?_
            have hU_36 : up (fun j => g j 0) k (give1 (g k) 0) = (up (fun j => g j 0) k ((g k 0) + 1)) := by rw [give1_0]; first | (rw [if_pos (by omega)]; done) | (rw [if_neg (by omega)]; exact up_id (fun j => g j 0) k)
            have hU_37 : up (fun j => wkOf (g j)) k (wkOf (give1 (g k))) = (up (fun j => wkOf (g j)) k (-1)) := by rw [wk_g hc]; first | (rw [if_neg (by omega)]; done) | exact up_same (by show wkOf (g k) = _; have w1 := hW.2.1; have w2 := hW.2.2.1; split <;> omega)
            refine g_as (ws1 := [(m0, oo 7 (fMo ra mm nf ti so ta go sl lo cn lx ly pm pi)), (ra 15, aI E 8 fm), (ra 16, aI E 8 fa), (ra 17, aI E 8 fb), (ra 12, aI E 6 (fun j => g j 7)), (ra 13, aI E 6 (fun j => g j 8)), (ra 11, aI E 6 (up (fun j => wkOf (g j)) k (wkOf (give1 (g k))))), (ra 5, aI E 6 (up (fun j => g j 0) k (give1 (g k) 0))), (ra 4, aI E 6 (fun j => S j 3)), (ra 1, aI E 6 (fun j => S j 0)), (ra 2, aI E 6 (fun j => S j 1)), (ra 3, aI E 6 (fun j => S j 2)), (ra 7, aI E 6 (fun j => g j 4)), (ra 8, aI E 6 (fun j => g j 5)), (ra 9, aI E 6 (fun j => g j 6)), (ra 10, aI E 6 (fun j => g j 10)), (ra 26, aI E 200 lt), (ra 27, aI E 200 bo), (ra 28, aI E 200 wg)]) ?_ (by rw [hU_36, hU_37]) rfl rfl
            have hwg := wk_g hc
            have hgp : ∀ j, 0 ≤ j → j < 6 → 0 ≤ up (fun j => g j 0) k (give1 (g k) 0) j ∧ up (fun j => g j 0) k (give1 (g k) 0) j ≤ 20 := by intro j j0 j1; unfold up; rw [give1_0]; have q8 := hgr k (by omega) (by omega); have q9 := hgr j j0 j1; have q7 := hs.2.2.2; split <;> (try split) <;> omega
            refine g_aload_n 0 dX7_steps_81 rfl rfl ?_
            refine g_get (C := RX7) (T := TX7) (N := 43) 0 11 (fun _ h => List.mem_cons_of_mem _ (List.mem_append_right _ h)) (List.mem_of_getElem? (i := 4) rfl) rfl rfl (by decide) rfl rfl dX7_steps_82 ?_
            refine g_iload_n 1 dX7_steps_85 rfl rfl ?_
            refine g_iald 6 dX7_steps_86 rfl (by decide) (by omega) (by omega) ?_
            refine g_top (y := iI (wkOf (give1 (g k)))) (congrArg iI (up_s _ _ _)) ?_
            refine g_if_ge (tgt := 107) (by unfold R32; omega) dX7_steps_87 rfl (fun c_38 => ?_) (fun c_38 => ?_)
            · refine g_aload_n 0 dX7_steps_107 rfl rfl ?_
              refine g_get (C := RX7) (T := TX7) (N := 43) 0 11 (fun _ h => List.mem_cons_of_mem _ (List.mem_append_right _ h)) (List.mem_of_getElem? (i := 4) rfl) rfl rfl (by decide) rfl rfl dX7_steps_108 ?_
              refine g_iload_n 1 dX7_steps_111 rfl rfl ?_
              refine g_dup2 dX7_steps_112 rfl rfl ?_
              refine g_iald 6 dX7_steps_113 rfl (by decide) (by omega) (by omega) ?_
              refine g_top (y := iI (wkOf (give1 (g k)))) (congrArg iI (up_s _ _ _)) ?_
              refine g_iconst dX7_steps_114 ?_
              refine g_iadd dX7_steps_115 ?_
              refine g_iast (ws1 := [(m0, oo 7 (fMo ra mm nf ti so ta go sl lo cn lx ly pm pi)), (ra 15, aI E 8 fm), (ra 16, aI E 8 fa), (ra 17, aI E 8 fb), (ra 12, aI E 6 (fun j => g j 7)), (ra 13, aI E 6 (fun j => g j 8)), (ra 11, aI E 6 (up (up (fun j => wkOf (g j)) k (wkOf (give1 (g k)))) k ((wkOf (give1 (g k))) + 1))), (ra 5, aI E 6 (up (fun j => g j 0) k (give1 (g k) 0))), (ra 4, aI E 6 (fun j => S j 3)), (ra 1, aI E 6 (fun j => S j 0)), (ra 2, aI E 6 (fun j => S j 1)), (ra 3, aI E 6 (fun j => S j 2)), (ra 7, aI E 6 (fun j => g j 4)), (ra 8, aI E 6 (fun j => g j 5)), (ra 9, aI E 6 (fun j => g j 6)), (ra 10, aI E 6 (fun j => g j 10)), (ra 26, aI E 200 lt), (ra 27, aI E 200 bo), (ra 28, aI E 200 wg)]) 6 dX7_steps_116 rfl rfl (by decide) (by omega) (by omega) ?_
              have hU_39 : (up (fun j => wkOf (g j)) k (wkOf (work1 (g k)))) = (up (up (fun j => wkOf (g j)) k (wkOf (give1 (g k)))) k ((wkOf (give1 (g k))) + 1)) := by (repeat rw [up_up]); rw [wk_w hc]; congr 1; first | omega | (rw [wk_g hc, if_pos (by omega)])
              refine g_as (ws1 := [(m0, oo 7 (fMo ra mm nf ti so ta go sl lo cn lx ly pm pi)), (ra 15, aI E 8 fm), (ra 16, aI E 8 fa), (ra 17, aI E 8 fb), (ra 12, aI E 6 (fun j => g j 7)), (ra 13, aI E 6 (fun j => g j 8)), (ra 11, aI E 6 (up (fun j => wkOf (g j)) k (wkOf (work1 (g k))))), (ra 5, aI E 6 (up (fun j => g j 0) k (give1 (g k) 0))), (ra 4, aI E 6 (fun j => S j 3)), (ra 1, aI E 6 (fun j => S j 0)), (ra 2, aI E 6 (fun j => S j 1)), (ra 3, aI E 6 (fun j => S j 2)), (ra 7, aI E 6 (fun j => g j 4)), (ra 8, aI E 6 (fun j => g j 5)), (ra 9, aI E 6 (fun j => g j 6)), (ra 10, aI E 6 (fun j => g j 10)), (ra 26, aI E 200 lt), (ra 27, aI E 200 bo), (ra 28, aI E 200 wg)]) ?_ (by rw [hU_39]) rfl rfl
              have hww := wk_w hc
              refine g_aload_n 0 dX7_steps_117 rfl rfl ?_
              refine g_get (C := RX7) (T := TX7) (N := 43) 0 11 (fun _ h => List.mem_cons_of_mem _ (List.mem_append_right _ h)) (List.mem_of_getElem? (i := 4) rfl) rfl rfl (by decide) rfl rfl dX7_steps_118 ?_
              refine g_iload_n 1 dX7_steps_121 rfl rfl ?_
              refine g_iald 6 dX7_steps_122 rfl (by decide) (by omega) (by omega) ?_
              refine g_top (y := iI (wkOf (work1 (g k)))) (congrArg iI (up_s _ _ _)) ?_
              refine g_aload_n 0 dX7_steps_123 rfl rfl ?_
              refine g_get (C := RX7) (T := TX7) (N := 43) 0 1 (fun _ h => List.mem_cons_of_mem _ (List.mem_append_right _ h)) (List.mem_of_getElem? (i := 7) rfl) rfl rfl (by decide) rfl rfl dX7_steps_124 ?_
              refine g_iload_n 1 dX7_steps_127 rfl rfl ?_
              refine g_iald 9 dX7_steps_128 rfl (by decide) (by omega) (by omega) ?_
              refine g_top (y := iI (S k 0)) rfl ?_
              refine g_icmp_lt (tgt := 137) (by unfold R32; omega) (by unfold R32; omega) dX7_steps_129 rfl (fun c_40 => ?_) (fun c_40 => ?_)
              · refine g_aload_n 0 dX7_steps_137 rfl rfl ?_
                refine g_get (C := RX7) (T := TX7) (N := 43) 0 10 (fun _ h => List.mem_cons_of_mem _ (List.mem_append_right _ h)) (List.mem_of_getElem? (i := 8) rfl) rfl rfl (by decide) rfl rfl dX7_steps_138 ?_
                refine g_iload_n 1 dX7_steps_141 rfl rfl ?_
                refine g_dup2 dX7_steps_142 rfl rfl ?_
                refine g_iald 15 dX7_steps_143 rfl (by decide) (by omega) (by omega) ?_
                refine g_top (y := iI (g k 10)) rfl ?_
                refine g_iconst dX7_steps_144 ?_
                refine g_iadd dX7_steps_145 ?_
                refine g_iast (ws1 := [(m0, oo 7 (fMo ra mm nf ti so ta go sl lo cn lx ly pm pi)), (ra 15, aI E 8 fm), (ra 16, aI E 8 fa), (ra 17, aI E 8 fb), (ra 12, aI E 6 (fun j => g j 7)), (ra 13, aI E 6 (fun j => g j 8)), (ra 11, aI E 6 (up (fun j => wkOf (g j)) k (wkOf (work1 (g k))))), (ra 5, aI E 6 (up (fun j => g j 0) k (give1 (g k) 0))), (ra 4, aI E 6 (fun j => S j 3)), (ra 1, aI E 6 (fun j => S j 0)), (ra 2, aI E 6 (fun j => S j 1)), (ra 3, aI E 6 (fun j => S j 2)), (ra 7, aI E 6 (fun j => g j 4)), (ra 8, aI E 6 (fun j => g j 5)), (ra 9, aI E 6 (fun j => g j 6)), (ra 10, aI E 6 (up (fun j => g j 10) k ((g k 10) + 1))), (ra 26, aI E 200 lt), (ra 27, aI E 200 bo), (ra 28, aI E 200 wg)]) 15 dX7_steps_146 rfl rfl (by decide) (by omega) (by omega) ?_
                refine g_iconst dX7_steps_147 ?_
                exact g_iret hRet dX7_steps_148 rfl ⟨3, (work1 (g k)), 0, 0, so, ta, (up (fun j => g j 0) k (give1 (g k) 0)), (up (fun j => wkOf (g j)) k (wkOf (work1 (g k)))), (fun j => g j 4), (fun j => g j 5), (fun j => g j 6), (fun j => g j 7), (fun j => g j 8), (up (fun j => g j 10) k ((g k 10) + 1)), (by first | (exfalso; omega) | (unfold sStep; rw [if_neg hflt, if_neg (by omega), if_neg (by omega), if_neg (by omega)]; refine ⟨rfl, ?_, ?_⟩; (first | (rw [if_pos (by omega)]; omega) | (rw [if_neg (by omega)]; omega) | rw [if_pos (by omega)] | rw [if_neg (by omega)]); unfold sFin; rw [if_pos (by rw [work1_3]; omega)]; exact ⟨rfl, rfl⟩)), (by constructor <;> (split <;> rfl)), (by rw [← (gapN_c (c := give1 (g k)) (by rw [work1_o _ 0 (by omega) (by omega)]))]; exact gapN_0), (by rfl), (by exact ⟨colS (by rw [work1_o _ 4 (by omega) (by omega), give1_o _ 4 (by omega) (by omega)]), colS (by rw [work1_o _ 5 (by omega) (by omega), give1_o _ 5 (by omega) (by omega)]), colS (by rw [work1_o _ 6 (by omega) (by omega), give1_o _ 6 (by omega) (by omega)]), colS (by rw [work1_o _ 7 (by omega) (by omega), give1_o _ 7 (by omega) (by omega)]), colS (by rw [work1_o _ 8 (by omega) (by omega), give1_o _ 8 (by omega) (by omega)])⟩), (by rw [if_pos rfl]; congr 1; rw [work1_o _ 10 (by omega) (by omega), give1_o _ 10 (by omega) (by omega)]), (by omega), rfl, rfl⟩
              · refine g_aload_n 0 dX7_steps_132 rfl rfl ?_
                refine g_iload_n 1 dX7_steps_133 rfl rfl ?_
                refine g_callV_v (n := 1) (As := [.int (iI k)]) (wr := [(ra 15, aI E 8 fm), (ra 16, aI E 8 fa), (ra 17, aI E 8 fb), (ra 5, aI E 6 (up (fun j => g j 0) k (give1 (g k) 0))), (ra 4, aI E 6 (fun j => S j 3)), (ra 1, aI E 6 (fun j => S j 0)), (ra 10, aI E 6 (fun j => g j 10))]) (C := RX7) [] (c_X7_finishes E m0 ra mm nf ti so ta go sl lo cn lx ly pm pi g S (work1 (g k)) (up (fun j => wkOf (g j)) k (wkOf (work1 (g k)))) lt bo wg k (by omega) (by omega) (by first | exact hso | (rw [hft2.1]; have q3 := hft.2; rw [hav] at q3; (repeat' split) <;> (try (rw [if_pos (by assumption)] at q3)) <;> omega)) (by omega) (by omega) (by omega) (by omega) (by exact (by rw [work1_o _ 4 (by omega) (by omega), give1_o _ 4 (by omega) (by omega)])) (by rw [work1_o _ 5 (by omega) (by omega), give1_o _ 5 (by omega) (by omega)]) (by rw [work1_o _ 6 (by omega) (by omega), give1_o _ 6 (by omega) (by omega)]) (by rw [work1_o _ 7 (by omega) (by omega), give1_o _ 7 (by omega) (by omega)]) (by rw [work1_o _ 8 (by omega) (by omega), give1_o _ 8 (by omega) (by omega)]) (by rw [work1_o _ 2 (by omega) (by omega), give1_2]) (by rw [work1_o _ 7 (by omega) (by omega), give1_o _ 7 (by omega) (by omega)]; omega) (by exact hs)) [0, 10, 11, 12, 13, 14, 4, 5, 6, 16, 17, 18] [1, 2, 3, 7, 8, 9, 15] 0 rfl rfl gX7_steps_X7_finishes rfl ⟨rfl, by decide +kernel⟩ ⟨by decide, by decide⟩ rfl rfl rfl rfl rfl (by decide) rfl (by decide) (by decide) (fun _ h => absurd h List.not_mem_nil) dX7_steps_134 rfl (Nat.le_of_ble_eq_true rfl) ⟨by decide, by decide⟩ (fun u p_41 => ?_)
                obtain ⟨cc, gdd, hfe, hfw, rfl⟩ := p_41
                refine g_perm (ws1 := [(m0, oo 7 (fMo ra mm nf ti so ta (if gdd = 0 then go else go + 1) sl lo (if gdd = 1 ∧ cn < 200 then cn + 1 else cn) lx ly pm pi)), (ra 15, aI E 8 fm), (ra 16, aI E 8 fa), (ra 17, aI E 8 fb), (ra 12, aI E 6 (up (fun j => g j 7) k (cc 7))), (ra 13, aI E 6 (up (fun j => g j 8) k (cc 8))), (ra 11, aI E 6 (up (up (fun j => wkOf (g j)) k (wkOf (work1 (g k)))) k (if cc 2 = 1 then 100 else -1))), (ra 5, aI E 6 (up (fun j => g j 0) k (give1 (g k) 0))), (ra 4, aI E 6 (fun j => S j 3)), (ra 1, aI E 6 (fun j => S j 0)), (ra 2, aI E 6 (fun j => S j 1)), (ra 3, aI E 6 (fun j => S j 2)), (ra 7, aI E 6 (up (fun j => g j 4) k (cc 4))), (ra 8, aI E 6 (up (fun j => g j 5) k (cc 5))), (ra 9, aI E 6 (up (fun j => g j 6) k (cc 6))), (ra 10, aI E 6 (fun j => g j 10)), (ra 26, aI E 200 (if gdd = 1 ∧ cn < 200 then up lt cn lo else lt)), (ra 27, aI E 200 (if gdd = 1 ∧ cn < 200 then up bo cn (-4) else bo)), (ra 28, aI E 200 (if gdd = 1 ∧ cn < 200 then up wg cn (-4) else wg))]) [7, 0, 1, 2, 13, 14, 15, 3, 4, 5, 8, 9, 10, 11, 12, 6, 16, 17, 18] rfl (by decide) rfl ?_
                refine g_aload_n 0 dX7_steps_137 rfl rfl ?_
                refine g_get (C := RX7) (T := TX7) (N := 43) 0 10 (fun _ h => List.mem_cons_of_mem _ (List.mem_append_right _ h)) (List.mem_of_getElem? (i := 8) rfl) rfl rfl (by decide) rfl rfl dX7_steps_138 ?_
                refine g_iload_n 1 dX7_steps_141 rfl rfl ?_
                refine g_dup2 dX7_steps_142 rfl rfl ?_
                refine g_iald 15 dX7_steps_143 rfl (by decide) (by omega) (by omega) ?_
                refine g_top (y := iI (g k 10)) rfl ?_
                refine g_iconst dX7_steps_144 ?_
                refine g_iadd dX7_steps_145 ?_
                refine g_iast (ws1 := [(m0, oo 7 (fMo ra mm nf ti so ta (if gdd = 0 then go else go + 1) sl lo (if gdd = 1 ∧ cn < 200 then cn + 1 else cn) lx ly pm pi)), (ra 15, aI E 8 fm), (ra 16, aI E 8 fa), (ra 17, aI E 8 fb), (ra 12, aI E 6 (up (fun j => g j 7) k (cc 7))), (ra 13, aI E 6 (up (fun j => g j 8) k (cc 8))), (ra 11, aI E 6 (up (up (fun j => wkOf (g j)) k (wkOf (work1 (g k)))) k (if cc 2 = 1 then 100 else -1))), (ra 5, aI E 6 (up (fun j => g j 0) k (give1 (g k) 0))), (ra 4, aI E 6 (fun j => S j 3)), (ra 1, aI E 6 (fun j => S j 0)), (ra 2, aI E 6 (fun j => S j 1)), (ra 3, aI E 6 (fun j => S j 2)), (ra 7, aI E 6 (up (fun j => g j 4) k (cc 4))), (ra 8, aI E 6 (up (fun j => g j 5) k (cc 5))), (ra 9, aI E 6 (up (fun j => g j 6) k (cc 6))), (ra 10, aI E 6 (up (fun j => g j 10) k ((g k 10) + 1))), (ra 26, aI E 200 (if gdd = 1 ∧ cn < 200 then up lt cn lo else lt)), (ra 27, aI E 200 (if gdd = 1 ∧ cn < 200 then up bo cn (-4) else bo)), (ra 28, aI E 200 (if gdd = 1 ∧ cn < 200 then up wg cn (-4) else wg))]) 15 dX7_steps_146 rfl rfl (by decide) (by omega) (by omega) ?_
                refine g_iconst dX7_steps_147 ?_
                exact g_iret hRet dX7_steps_148 rfl ⟨3, cc, 0, gdd, so, ta, (up (fun j => g j 0) k (give1 (g k) 0)), (up (up (fun j => wkOf (g j)) k (wkOf (work1 (g k)))) k (if cc 2 = 1 then 100 else -1)), (up (fun j => g j 4) k (cc 4)), (up (fun j => g j 5) k (cc 5)), (up (fun j => g j 6) k (cc 6)), (up (fun j => g j 7) k (cc 7)), (up (fun j => g j 8) k (cc 8)), (up (fun j => g j 10) k ((g k 10) + 1)), (by first | (exfalso; omega) | (unfold sStep; rw [if_neg hflt, if_neg (by omega), if_neg (by omega), if_neg (by omega)]; refine ⟨rfl, ?_, ?_⟩; (first | (rw [if_pos (by omega)]; omega) | (rw [if_neg (by omega)]; omega) | rw [if_pos (by omega)] | rw [if_neg (by omega)]); unfold sFin; rw [if_neg (by rw [work1_3]; omega)]; exact hfe)), (by constructor <;> (split <;> rfl)), (by rw [← (gapN_c (c := give1 (g k)) (by rw [(sEnd_f hfe).1, work1_o _ 0 (by omega) (by omega)]))]; exact gapN_0), (by rw [up_up, ← hfw.1]), (by exact ⟨rfl, rfl, rfl, rfl, rfl⟩), (by rw [if_pos rfl]; congr 1; rw [(sEnd_f hfe).2, work1_o _ 10 (by omega) (by omega), give1_o _ 10 (by omega) (by omega)]), (by exact hfw.2), rfl, rfl⟩
            · refine g_aload_n 0 dX7_steps_90 rfl rfl ?_
              refine g_iload_n 1 dX7_steps_91 rfl rfl ?_
              refine g_callV_i (n := 1) (As := [.int (iI k)]) (wr := [(ra 15, aI E 8 fm), (ra 16, aI E 8 fa), (ra 17, aI E 8 fb), (ra 12, aI E 6 (fun j => g j 7)), (ra 13, aI E 6 (fun j => g j 8)), (ra 11, aI E 6 (up (fun j => wkOf (g j)) k (wkOf (give1 (g k))))), (ra 4, aI E 6 (fun j => S j 3)), (ra 1, aI E 6 (fun j => S j 0)), (ra 2, aI E 6 (fun j => S j 1)), (ra 3, aI E 6 (fun j => S j 2)), (ra 7, aI E 6 (fun j => g j 4)), (ra 8, aI E 6 (fun j => g j 5)), (ra 9, aI E 6 (fun j => g j 6)), (ra 10, aI E 6 (fun j => g j 10)), (ra 26, aI E 200 lt), (ra 27, aI E 200 bo), (ra 28, aI E 200 wg)]) (C := RX7) [] (c_X7_takes E m0 ra mm nf ti so ta go sl lo cn lx ly pm pi (up (fun j => g j 0) k (give1 (g k) 0)) k (by omega) (by omega) (by omega) (by omega) (by omega) (by omega) (by omega) (by exact hgp)) [0, 7] [1, 2, 3, 4, 5, 6, 8, 9, 10, 11, 12, 13, 14, 15, 16, 17, 18] 0 rfl rfl gX7_steps_X7_takes rfl ⟨rfl, by decide +kernel⟩ ⟨by decide, by decide⟩ rfl rfl rfl rfl rfl (by decide) rfl (by decide) (by decide) (fun _ h => absurd h List.not_mem_nil) dX7_steps_92 rfl (Nat.le_of_ble_eq_true rfl) ⟨by decide, by decide⟩ (fun r u p_42 => ?_)
              obtain ⟨tkw, so_43, ta_44, gp_45, hft, hft2, hft3, rfl, rfl⟩ := p_42
              refine g_perm (ws1 := [(m0, oo 7 (fMo ra mm nf ti so_43 ta_44 go sl lo cn lx ly pm pi)), (ra 15, aI E 8 fm), (ra 16, aI E 8 fa), (ra 17, aI E 8 fb), (ra 12, aI E 6 (fun j => g j 7)), (ra 13, aI E 6 (fun j => g j 8)), (ra 11, aI E 6 (up (fun j => wkOf (g j)) k (wkOf (give1 (g k))))), (ra 5, aI E 6 gp_45), (ra 4, aI E 6 (fun j => S j 3)), (ra 1, aI E 6 (fun j => S j 0)), (ra 2, aI E 6 (fun j => S j 1)), (ra 3, aI E 6 (fun j => S j 2)), (ra 7, aI E 6 (fun j => g j 4)), (ra 8, aI E 6 (fun j => g j 5)), (ra 9, aI E 6 (fun j => g j 6)), (ra 10, aI E 6 (fun j => g j 10)), (ra 26, aI E 200 lt), (ra 27, aI E 200 bo), (ra 28, aI E 200 wg)]) [17, 0, 1, 2, 3, 4, 5, 18, 6, 7, 8, 9, 10, 11, 12, 13, 14, 15, 16] rfl (by decide) rfl ?_
              have hav : (if k = 0 then so else up (fun j => g j 0) k (give1 (g k) 0) (k - 1)) = (if k = 0 then so else g (k - 1) 0) := by rw [up_n (fun j => g j 0) _ (show k - 1 ≠ k by omega)]
              have hav0 : 0 ≤ (if k = 0 then so else g (k - 1) 0) := by split; exact hso.1; exact (hgr (k - 1) (by omega) (by omega)).1
              refine g_if_ne (tgt := 100) (by unfold R32; omega) dX7_steps_95 rfl (fun c_46 => ?_) (fun c_46 => ?_)
              · refine g_iconst dX7_steps_98 ?_
                exact g_iret hRet dX7_steps_99 rfl ⟨4, (give1 (g k)), tkw, 0, so_43, ta_44, gp_45, (up (fun j => wkOf (g j)) k (wkOf (give1 (g k)))), (fun j => g j 4), (fun j => g j 5), (fun j => g j 6), (fun j => g j 7), (fun j => g j 8), (fun j => g j 10), (by unfold sStep; rw [if_neg hflt, if_neg (by omega), if_neg (by omega), if_pos (by rw [← hav]; have q3 := hft.2.mp (by omega); have q4 := hwg; refine ⟨?_, q3⟩; rw [hwg] at *; split at * <;> omega)]; exact ⟨rfl, rfl, by omega, rfl⟩), (by exact hft2), (by rw [hft3]; exact gapN_tk), (by rfl), (by exact ⟨colS (give1_o _ 4 (by omega) (by omega)), colS (give1_o _ 5 (by omega) (by omega)), colS (give1_o _ 6 (by omega) (by omega)), colS (give1_o _ 7 (by omega) (by omega)), colS (give1_o _ 8 (by omega) (by omega))⟩), (by rw [if_neg (by omega)]; exact colS (give1_o _ 10 (by omega) (by omega))), (by omega), rfl, rfl⟩
              · refine g_aload_n 0 dX7_steps_100 rfl rfl ?_
                refine g_get (C := RX7) (T := TX7) (N := 43) 0 11 (fun _ h => List.mem_cons_of_mem _ (List.mem_append_right _ h)) (List.mem_of_getElem? (i := 4) rfl) rfl rfl (by decide) rfl rfl dX7_steps_101 ?_
                refine g_iload_n 1 dX7_steps_104 rfl rfl ?_
                refine g_iconst dX7_steps_105 ?_
                refine g_iast (ws1 := [(m0, oo 7 (fMo ra mm nf ti so_43 ta_44 go sl lo cn lx ly pm pi)), (ra 15, aI E 8 fm), (ra 16, aI E 8 fa), (ra 17, aI E 8 fb), (ra 12, aI E 6 (fun j => g j 7)), (ra 13, aI E 6 (fun j => g j 8)), (ra 11, aI E 6 (up (up (fun j => wkOf (g j)) k (wkOf (give1 (g k)))) k 0)), (ra 5, aI E 6 gp_45), (ra 4, aI E 6 (fun j => S j 3)), (ra 1, aI E 6 (fun j => S j 0)), (ra 2, aI E 6 (fun j => S j 1)), (ra 3, aI E 6 (fun j => S j 2)), (ra 7, aI E 6 (fun j => g j 4)), (ra 8, aI E 6 (fun j => g j 5)), (ra 9, aI E 6 (fun j => g j 6)), (ra 10, aI E 6 (fun j => g j 10)), (ra 26, aI E 200 lt), (ra 27, aI E 200 bo), (ra 28, aI E 200 wg)]) 6 dX7_steps_106 rfl rfl (by decide) (by omega) (by omega) ?_
                refine g_aload_n 0 dX7_steps_107 rfl rfl ?_
                refine g_get (C := RX7) (T := TX7) (N := 43) 0 11 (fun _ h => List.mem_cons_of_mem _ (List.mem_append_right _ h)) (List.mem_of_getElem? (i := 4) rfl) rfl rfl (by decide) rfl rfl dX7_steps_108 ?_
                refine g_iload_n 1 dX7_steps_111 rfl rfl ?_
                refine g_dup2 dX7_steps_112 rfl rfl ?_
                refine g_iald 6 dX7_steps_113 rfl (by decide) (by omega) (by omega) ?_
                refine g_top (y := iI 0) (congrArg iI (up_s _ _ _)) ?_
                refine g_iconst dX7_steps_114 ?_
                refine g_iadd dX7_steps_115 ?_
                refine g_iast (ws1 := [(m0, oo 7 (fMo ra mm nf ti so_43 ta_44 go sl lo cn lx ly pm pi)), (ra 15, aI E 8 fm), (ra 16, aI E 8 fa), (ra 17, aI E 8 fb), (ra 12, aI E 6 (fun j => g j 7)), (ra 13, aI E 6 (fun j => g j 8)), (ra 11, aI E 6 (up (up (up (fun j => wkOf (g j)) k (wkOf (give1 (g k)))) k 0) k (0 + 1))), (ra 5, aI E 6 gp_45), (ra 4, aI E 6 (fun j => S j 3)), (ra 1, aI E 6 (fun j => S j 0)), (ra 2, aI E 6 (fun j => S j 1)), (ra 3, aI E 6 (fun j => S j 2)), (ra 7, aI E 6 (fun j => g j 4)), (ra 8, aI E 6 (fun j => g j 5)), (ra 9, aI E 6 (fun j => g j 6)), (ra 10, aI E 6 (fun j => g j 10)), (ra 26, aI E 200 lt), (ra 27, aI E 200 bo), (ra 28, aI E 200 wg)]) 6 dX7_steps_116 rfl rfl (by decide) (by omega) (by omega) ?_
                have hU_47 : (up (fun j => wkOf (g j)) k (wkOf (work1 (g k)))) = (up (up (up (fun j => wkOf (g j)) k (wkOf (give1 (g k)))) k 0) k (0 + 1)) := by (repeat rw [up_up]); rw [wk_w hc]; congr 1; first | omega | (rw [wk_g hc, if_pos (by omega)])
                refine g_as (ws1 := [(m0, oo 7 (fMo ra mm nf ti so_43 ta_44 go sl lo cn lx ly pm pi)), (ra 15, aI E 8 fm), (ra 16, aI E 8 fa), (ra 17, aI E 8 fb), (ra 12, aI E 6 (fun j => g j 7)), (ra 13, aI E 6 (fun j => g j 8)), (ra 11, aI E 6 (up (fun j => wkOf (g j)) k (wkOf (work1 (g k))))), (ra 5, aI E 6 gp_45), (ra 4, aI E 6 (fun j => S j 3)), (ra 1, aI E 6 (fun j => S j 0)), (ra 2, aI E 6 (fun j => S j 1)), (ra 3, aI E 6 (fun j => S j 2)), (ra 7, aI E 6 (fun j => g j 4)), (ra 8, aI E 6 (fun j => g j 5)), (ra 9, aI E 6 (fun j => g j 6)), (ra 10, aI E 6 (fun j => g j 10)), (ra 26, aI E 200 lt), (ra 27, aI E 200 bo), (ra 28, aI E 200 wg)]) ?_ (by rw [hU_47]) rfl rfl
                have hww := wk_w hc
                refine g_aload_n 0 dX7_steps_117 rfl rfl ?_
                refine g_get (C := RX7) (T := TX7) (N := 43) 0 11 (fun _ h => List.mem_cons_of_mem _ (List.mem_append_right _ h)) (List.mem_of_getElem? (i := 4) rfl) rfl rfl (by decide) rfl rfl dX7_steps_118 ?_
                refine g_iload_n 1 dX7_steps_121 rfl rfl ?_
                refine g_iald 6 dX7_steps_122 rfl (by decide) (by omega) (by omega) ?_
                refine g_top (y := iI (wkOf (work1 (g k)))) (congrArg iI (up_s _ _ _)) ?_
                refine g_aload_n 0 dX7_steps_123 rfl rfl ?_
                refine g_get (C := RX7) (T := TX7) (N := 43) 0 1 (fun _ h => List.mem_cons_of_mem _ (List.mem_append_right _ h)) (List.mem_of_getElem? (i := 7) rfl) rfl rfl (by decide) rfl rfl dX7_steps_124 ?_
                refine g_iload_n 1 dX7_steps_127 rfl rfl ?_
                refine g_iald 9 dX7_steps_128 rfl (by decide) (by omega) (by omega) ?_
                refine g_top (y := iI (S k 0)) rfl ?_
                refine g_icmp_lt (tgt := 137) (by unfold R32; omega) (by unfold R32; omega) dX7_steps_129 rfl (fun c_48 => ?_) (fun c_48 => ?_)
                · refine g_aload_n 0 dX7_steps_137 rfl rfl ?_
                  refine g_get (C := RX7) (T := TX7) (N := 43) 0 10 (fun _ h => List.mem_cons_of_mem _ (List.mem_append_right _ h)) (List.mem_of_getElem? (i := 8) rfl) rfl rfl (by decide) rfl rfl dX7_steps_138 ?_
                  refine g_iload_n 1 dX7_steps_141 rfl rfl ?_
                  refine g_dup2 dX7_steps_142 rfl rfl ?_
                  refine g_iald 15 dX7_steps_143 rfl (by decide) (by omega) (by omega) ?_
                  refine g_top (y := iI (g k 10)) rfl ?_
                  refine g_iconst dX7_steps_144 ?_
                  refine g_iadd dX7_steps_145 ?_
                  refine g_iast (ws1 := [(m0, oo 7 (fMo ra mm nf ti so_43 ta_44 go sl lo cn lx ly pm pi)), (ra 15, aI E 8 fm), (ra 16, aI E 8 fa), (ra 17, aI E 8 fb), (ra 12, aI E 6 (fun j => g j 7)), (ra 13, aI E 6 (fun j => g j 8)), (ra 11, aI E 6 (up (fun j => wkOf (g j)) k (wkOf (work1 (g k))))), (ra 5, aI E 6 gp_45), (ra 4, aI E 6 (fun j => S j 3)), (ra 1, aI E 6 (fun j => S j 0)), (ra 2, aI E 6 (fun j => S j 1)), (ra 3, aI E 6 (fun j => S j 2)), (ra 7, aI E 6 (fun j => g j 4)), (ra 8, aI E 6 (fun j => g j 5)), (ra 9, aI E 6 (fun j => g j 6)), (ra 10, aI E 6 (up (fun j => g j 10) k ((g k 10) + 1))), (ra 26, aI E 200 lt), (ra 27, aI E 200 bo), (ra 28, aI E 200 wg)]) 15 dX7_steps_146 rfl rfl (by decide) (by omega) (by omega) ?_
                  refine g_iconst dX7_steps_147 ?_
                  exact g_iret hRet dX7_steps_148 rfl ⟨3, (work1 (g k)), tkw, 0, so_43, ta_44, gp_45, (up (fun j => wkOf (g j)) k (wkOf (work1 (g k)))), (fun j => g j 4), (fun j => g j 5), (fun j => g j 6), (fun j => g j 7), (fun j => g j 8), (up (fun j => g j 10) k ((g k 10) + 1)), (by first | (exfalso; omega) | (unfold sStep; rw [if_neg hflt, if_neg (by omega), if_neg (by omega), if_neg (by intro q; have q3 := hft.2.mpr (by rw [hav]; exact q.2); omega)]; refine ⟨rfl, ?_, ?_⟩; (first | (rw [if_pos (by omega)]; omega) | (rw [if_neg (by omega)]; omega) | rw [if_pos (by omega)] | rw [if_neg (by omega)]); unfold sFin; rw [if_pos (by rw [work1_3]; omega)]; exact ⟨rfl, rfl⟩)), (by exact hft2), (by rw [← (gapN_c (c := give1 (g k)) (by rw [work1_o _ 0 (by omega) (by omega)]))]; rw [hft3]; exact gapN_tk), (by rfl), (by exact ⟨colS (by rw [work1_o _ 4 (by omega) (by omega), give1_o _ 4 (by omega) (by omega)]), colS (by rw [work1_o _ 5 (by omega) (by omega), give1_o _ 5 (by omega) (by omega)]), colS (by rw [work1_o _ 6 (by omega) (by omega), give1_o _ 6 (by omega) (by omega)]), colS (by rw [work1_o _ 7 (by omega) (by omega), give1_o _ 7 (by omega) (by omega)]), colS (by rw [work1_o _ 8 (by omega) (by omega), give1_o _ 8 (by omega) (by omega)])⟩), (by rw [if_pos rfl]; congr 1; rw [work1_o _ 10 (by omega) (by omega), give1_o _ 10 (by omega) (by omega)]), (by omega), rfl, rfl⟩
                · refine g_aload_n 0 dX7_steps_132 rfl rfl ?_
                  refine g_iload_n 1 dX7_steps_133 rfl rfl ?_
                  refine g_callV_v (n := 1) (As := [.int (iI k)]) (wr := [(ra 15, aI E 8 fm), (ra 16, aI E 8 fa), (ra 17, aI E 8 fb), (ra 5, aI E 6 gp_45), (ra 4, aI E 6 (fun j => S j 3)), (ra 1, aI E 6 (fun j => S j 0)), (ra 10, aI E 6 (fun j => g j 10))]) (C := RX7) [] (c_X7_finishes E m0 ra mm nf ti so_43 ta_44 go sl lo cn lx ly pm pi g S (work1 (g k)) (up (fun j => wkOf (g j)) k (wkOf (work1 (g k)))) lt bo wg k (by omega) (by omega) (by first | exact hso | (rw [hft2.1]; have q3 := hft.2; rw [hav] at q3; (repeat' split) <;> (try (rw [if_pos (by assumption)] at q3)) <;> omega)) (by omega) (by omega) (by omega) (by omega) (by exact (by rw [work1_o _ 4 (by omega) (by omega), give1_o _ 4 (by omega) (by omega)])) (by rw [work1_o _ 5 (by omega) (by omega), give1_o _ 5 (by omega) (by omega)]) (by rw [work1_o _ 6 (by omega) (by omega), give1_o _ 6 (by omega) (by omega)]) (by rw [work1_o _ 7 (by omega) (by omega), give1_o _ 7 (by omega) (by omega)]) (by rw [work1_o _ 8 (by omega) (by omega), give1_o _ 8 (by omega) (by omega)]) (by rw [work1_o _ 2 (by omega) (by omega), give1_2]) (by rw [work1_o _ 7 (by omega) (by omega), give1_o _ 7 (by omega) (by omega)]; omega) (by exact hs)) [0, 10, 11, 12, 13, 14, 4, 5, 6, 16, 17, 18] [1, 2, 3, 7, 8, 9, 15] 0 rfl rfl gX7_steps_X7_finishes rfl ⟨rfl, by decide +kernel⟩ ⟨by decide, by decide⟩ rfl rfl rfl rfl rfl (by decide) rfl (by decide) (by decide) (fun _ h => absurd h List.not_mem_nil) dX7_steps_134 rfl (Nat.le_of_ble_eq_true rfl) ⟨by decide, by decide⟩ (fun u p_49 => ?_)
                  obtain ⟨cc, gdd, hfe, hfw, rfl⟩ := p_49
                  refine g_perm (ws1 := [(m0, oo 7 (fMo ra mm nf ti so_43 ta_44 (if gdd = 0 then go else go + 1) sl lo (if gdd = 1 ∧ cn < 200 then cn + 1 else cn) lx ly pm pi)), (ra 15, aI E 8 fm), (ra 16, aI E 8 fa), (ra 17, aI E 8 fb), (ra 12, aI E 6 (up (fun j => g j 7) k (cc 7))), (ra 13, aI E 6 (up (fun j => g j 8) k (cc 8))), (ra 11, aI E 6 (up (up (fun j => wkOf (g j)) k (wkOf (work1 (g k)))) k (if cc 2 = 1 then 100 else -1))), (ra 5, aI E 6 gp_45), (ra 4, aI E 6 (fun j => S j 3)), (ra 1, aI E 6 (fun j => S j 0)), (ra 2, aI E 6 (fun j => S j 1)), (ra 3, aI E 6 (fun j => S j 2)), (ra 7, aI E 6 (up (fun j => g j 4) k (cc 4))), (ra 8, aI E 6 (up (fun j => g j 5) k (cc 5))), (ra 9, aI E 6 (up (fun j => g j 6) k (cc 6))), (ra 10, aI E 6 (fun j => g j 10)), (ra 26, aI E 200 (if gdd = 1 ∧ cn < 200 then up lt cn lo else lt)), (ra 27, aI E 200 (if gdd = 1 ∧ cn < 200 then up bo cn (-4) else bo)), (ra 28, aI E 200 (if gdd = 1 ∧ cn < 200 then up wg cn (-4) else wg))]) [7, 0, 1, 2, 13, 14, 15, 3, 4, 5, 8, 9, 10, 11, 12, 6, 16, 17, 18] rfl (by decide) rfl ?_
                  refine g_aload_n 0 dX7_steps_137 rfl rfl ?_
                  refine g_get (C := RX7) (T := TX7) (N := 43) 0 10 (fun _ h => List.mem_cons_of_mem _ (List.mem_append_right _ h)) (List.mem_of_getElem? (i := 8) rfl) rfl rfl (by decide) rfl rfl dX7_steps_138 ?_
                  refine g_iload_n 1 dX7_steps_141 rfl rfl ?_
                  refine g_dup2 dX7_steps_142 rfl rfl ?_
                  refine g_iald 15 dX7_steps_143 rfl (by decide) (by omega) (by omega) ?_
                  refine g_top (y := iI (g k 10)) rfl ?_
                  refine g_iconst dX7_steps_144 ?_
                  refine g_iadd dX7_steps_145 ?_
                  refine g_iast (ws1 := [(m0, oo 7 (fMo ra mm nf ti so_43 ta_44 (if gdd = 0 then go else go + 1) sl lo (if gdd = 1 ∧ cn < 200 then cn + 1 else cn) lx ly pm pi)), (ra 15, aI E 8 fm), (ra 16, aI E 8 fa), (ra 17, aI E 8 fb), (ra 12, aI E 6 (up (fun j => g j 7) k (cc 7))), (ra 13, aI E 6 (up (fun j => g j 8) k (cc 8))), (ra 11, aI E 6 (up (up (fun j => wkOf (g j)) k (wkOf (work1 (g k)))) k (if cc 2 = 1 then 100 else -1))), (ra 5, aI E 6 gp_45), (ra 4, aI E 6 (fun j => S j 3)), (ra 1, aI E 6 (fun j => S j 0)), (ra 2, aI E 6 (fun j => S j 1)), (ra 3, aI E 6 (fun j => S j 2)), (ra 7, aI E 6 (up (fun j => g j 4) k (cc 4))), (ra 8, aI E 6 (up (fun j => g j 5) k (cc 5))), (ra 9, aI E 6 (up (fun j => g j 6) k (cc 6))), (ra 10, aI E 6 (up (fun j => g j 10) k ((g k 10) + 1))), (ra 26, aI E 200 (if gdd = 1 ∧ cn < 200 then up lt cn lo else lt)), (ra 27, aI E 200 (if gdd = 1 ∧ cn < 200 then up bo cn (-4) else bo)), (ra 28, aI E 200 (if gdd = 1 ∧ cn < 200 then up wg cn (-4) else wg))]) 15 dX7_steps_146 rfl rfl (by decide) (by omega) (by omega) ?_
                  refine g_iconst dX7_steps_147 ?_
                  exact g_iret hRet dX7_steps_148 rfl ⟨3, cc, tkw, gdd, so_43, ta_44, gp_45, (up (up (fun j => wkOf (g j)) k (wkOf (work1 (g k)))) k (if cc 2 = 1 then 100 else -1)), (up (fun j => g j 4) k (cc 4)), (up (fun j => g j 5) k (cc 5)), (up (fun j => g j 6) k (cc 6)), (up (fun j => g j 7) k (cc 7)), (up (fun j => g j 8) k (cc 8)), (up (fun j => g j 10) k ((g k 10) + 1)), (by first | (exfalso; omega) | (unfold sStep; rw [if_neg hflt, if_neg (by omega), if_neg (by omega), if_neg (by intro q; have q3 := hft.2.mpr (by rw [hav]; exact q.2); omega)]; refine ⟨rfl, ?_, ?_⟩; (first | (rw [if_pos (by omega)]; omega) | (rw [if_neg (by omega)]; omega) | rw [if_pos (by omega)] | rw [if_neg (by omega)]); unfold sFin; rw [if_neg (by rw [work1_3]; omega)]; exact hfe)), (by exact hft2), (by rw [← (gapN_c (c := give1 (g k)) (by rw [(sEnd_f hfe).1, work1_o _ 0 (by omega) (by omega)]))]; rw [hft3]; exact gapN_tk), (by rw [up_up, ← hfw.1]), (by exact ⟨rfl, rfl, rfl, rfl, rfl⟩), (by rw [if_pos rfl]; congr 1; rw [(sEnd_f hfe).2, work1_o _ 10 (by omega) (by omega), give1_o _ 10 (by omega) (by omega)]), (by exact hfw.2), rfl, rfl⟩
        · have hU_50 : up (fun j => g j 0) k (give1 (g k) 0) = (fun j => g j 0) := by rw [give1_0]; first | (rw [if_pos (by omega)]; done) | (rw [if_neg (by omega)]; exact up_id (fun j => g j 0) k)
          have hU_51 : up (fun j => wkOf (g j)) k (wkOf (give1 (g k))) = (fun j => wkOf (g j)) := by rw [wk_g hc]; first | (rw [if_neg (by omega)]; done) | exact up_same (by show wkOf (g k) = _; have w1 := hW.2.1; have w2 := hW.2.2.1; split <;> omega)
          refine g_as (ws1 := [(m0, oo 7 (fMo ra mm nf ti so ta go sl lo cn lx ly pm pi)), (ra 15, aI E 8 fm), (ra 16, aI E 8 fa), (ra 17, aI E 8 fb), (ra 12, aI E 6 (fun j => g j 7)), (ra 13, aI E 6 (fun j => g j 8)), (ra 11, aI E 6 (up (fun j => wkOf (g j)) k (wkOf (give1 (g k))))), (ra 5, aI E 6 (up (fun j => g j 0) k (give1 (g k) 0))), (ra 4, aI E 6 (fun j => S j 3)), (ra 1, aI E 6 (fun j => S j 0)), (ra 2, aI E 6 (fun j => S j 1)), (ra 3, aI E 6 (fun j => S j 2)), (ra 7, aI E 6 (fun j => g j 4)), (ra 8, aI E 6 (fun j => g j 5)), (ra 9, aI E 6 (fun j => g j 6)), (ra 10, aI E 6 (fun j => g j 10)), (ra 26, aI E 200 lt), (ra 27, aI E 200 bo), (ra 28, aI E 200 wg)]) ?_ (by rw [hU_50, hU_51]) rfl rfl
          have hwg := wk_g hc
          have hgp : ∀ j, 0 ≤ j → j < 6 → 0 ≤ up (fun j => g j 0) k (give1 (g k) 0) j ∧ up (fun j => g j 0) k (give1 (g k) 0) j ≤ 20 := by intro j j0 j1; unfold up; rw [give1_0]; have q8 := hgr k (by omega) (by omega); have q9 := hgr j j0 j1; have q7 := hs.2.2.2; split <;> (try split) <;> omega
          refine g_aload_n 0 dX7_steps_81 rfl rfl ?_
          refine g_get (C := RX7) (T := TX7) (N := 43) 0 11 (fun _ h => List.mem_cons_of_mem _ (List.mem_append_right _ h)) (List.mem_of_getElem? (i := 4) rfl) rfl rfl (by decide) rfl rfl dX7_steps_82 ?_
          refine g_iload_n 1 dX7_steps_85 rfl rfl ?_
          refine g_iald 6 dX7_steps_86 rfl (by decide) (by omega) (by omega) ?_
          refine g_top (y := iI (wkOf (give1 (g k)))) (congrArg iI (up_s _ _ _)) ?_
          refine g_if_ge (tgt := 107) (by unfold R32; omega) dX7_steps_87 rfl (fun c_52 => ?_) (fun c_52 => ?_)
          · refine g_aload_n 0 dX7_steps_107 rfl rfl ?_
            refine g_get (C := RX7) (T := TX7) (N := 43) 0 11 (fun _ h => List.mem_cons_of_mem _ (List.mem_append_right _ h)) (List.mem_of_getElem? (i := 4) rfl) rfl rfl (by decide) rfl rfl dX7_steps_108 ?_
            refine g_iload_n 1 dX7_steps_111 rfl rfl ?_
            refine g_dup2 dX7_steps_112 rfl rfl ?_
            refine g_iald 6 dX7_steps_113 rfl (by decide) (by omega) (by omega) ?_
            refine g_top (y := iI (wkOf (give1 (g k)))) (congrArg iI (up_s _ _ _)) ?_
            refine g_iconst dX7_steps_114 ?_
            refine g_iadd dX7_steps_115 ?_
            refine g_iast (ws1 := [(m0, oo 7 (fMo ra mm nf ti so ta go sl lo cn lx ly pm pi)), (ra 15, aI E 8 fm), (ra 16, aI E 8 fa), (ra 17, aI E 8 fb), (ra 12, aI E 6 (fun j => g j 7)), (ra 13, aI E 6 (fun j => g j 8)), (ra 11, aI E 6 (up (up (fun j => wkOf (g j)) k (wkOf (give1 (g k)))) k ((wkOf (give1 (g k))) + 1))), (ra 5, aI E 6 (up (fun j => g j 0) k (give1 (g k) 0))), (ra 4, aI E 6 (fun j => S j 3)), (ra 1, aI E 6 (fun j => S j 0)), (ra 2, aI E 6 (fun j => S j 1)), (ra 3, aI E 6 (fun j => S j 2)), (ra 7, aI E 6 (fun j => g j 4)), (ra 8, aI E 6 (fun j => g j 5)), (ra 9, aI E 6 (fun j => g j 6)), (ra 10, aI E 6 (fun j => g j 10)), (ra 26, aI E 200 lt), (ra 27, aI E 200 bo), (ra 28, aI E 200 wg)]) 6 dX7_steps_116 rfl rfl (by decide) (by omega) (by omega) ?_
            have hU_53 : (up (fun j => wkOf (g j)) k (wkOf (work1 (g k)))) = (up (up (fun j => wkOf (g j)) k (wkOf (give1 (g k)))) k ((wkOf (give1 (g k))) + 1)) := by (repeat rw [up_up]); rw [wk_w hc]; congr 1; first | omega | (rw [wk_g hc, if_pos (by omega)])
            refine g_as (ws1 := [(m0, oo 7 (fMo ra mm nf ti so ta go sl lo cn lx ly pm pi)), (ra 15, aI E 8 fm), (ra 16, aI E 8 fa), (ra 17, aI E 8 fb), (ra 12, aI E 6 (fun j => g j 7)), (ra 13, aI E 6 (fun j => g j 8)), (ra 11, aI E 6 (up (fun j => wkOf (g j)) k (wkOf (work1 (g k))))), (ra 5, aI E 6 (up (fun j => g j 0) k (give1 (g k) 0))), (ra 4, aI E 6 (fun j => S j 3)), (ra 1, aI E 6 (fun j => S j 0)), (ra 2, aI E 6 (fun j => S j 1)), (ra 3, aI E 6 (fun j => S j 2)), (ra 7, aI E 6 (fun j => g j 4)), (ra 8, aI E 6 (fun j => g j 5)), (ra 9, aI E 6 (fun j => g j 6)), (ra 10, aI E 6 (fun j => g j 10)), (ra 26, aI E 200 lt), (ra 27, aI E 200 bo), (ra 28, aI E 200 wg)]) ?_ (by rw [hU_53]) rfl rfl
            have hww := wk_w hc
            refine g_aload_n 0 dX7_steps_117 rfl rfl ?_
            refine g_get (C := RX7) (T := TX7) (N := 43) 0 11 (fun _ h => List.mem_cons_of_mem _ (List.mem_append_right _ h)) (List.mem_of_getElem? (i := 4) rfl) rfl rfl (by decide) rfl rfl dX7_steps_118 ?_
            refine g_iload_n 1 dX7_steps_121 rfl rfl ?_
            refine g_iald 6 dX7_steps_122 rfl (by decide) (by omega) (by omega) ?_
            refine g_top (y := iI (wkOf (work1 (g k)))) (congrArg iI (up_s _ _ _)) ?_
            refine g_aload_n 0 dX7_steps_123 rfl rfl ?_
            refine g_get (C := RX7) (T := TX7) (N := 43) 0 1 (fun _ h => List.mem_cons_of_mem _ (List.mem_append_right _ h)) (List.mem_of_getElem? (i := 7) rfl) rfl rfl (by decide) rfl rfl dX7_steps_124 ?_
            refine g_iload_n 1 dX7_steps_127 rfl rfl ?_
            refine g_iald 9 dX7_steps_128 rfl (by decide) (by omega) (by omega) ?_
            refine g_top (y := iI (S k 0)) rfl ?_
            refine g_icmp_lt (tgt := 137) (by unfold R32; omega) (by unfold R32; omega) dX7_steps_129 rfl (fun c_54 => ?_) (fun c_54 => ?_)
            · refine g_aload_n 0 dX7_steps_137 rfl rfl ?_
              refine g_get (C := RX7) (T := TX7) (N := 43) 0 10 (fun _ h => List.mem_cons_of_mem _ (List.mem_append_right _ h)) (List.mem_of_getElem? (i := 8) rfl) rfl rfl (by decide) rfl rfl dX7_steps_138 ?_
              refine g_iload_n 1 dX7_steps_141 rfl rfl ?_
              refine g_dup2 dX7_steps_142 rfl rfl ?_
              refine g_iald 15 dX7_steps_143 rfl (by decide) (by omega) (by omega) ?_
              refine g_top (y := iI (g k 10)) rfl ?_
              refine g_iconst dX7_steps_144 ?_
              refine g_iadd dX7_steps_145 ?_
              refine g_iast (ws1 := [(m0, oo 7 (fMo ra mm nf ti so ta go sl lo cn lx ly pm pi)), (ra 15, aI E 8 fm), (ra 16, aI E 8 fa), (ra 17, aI E 8 fb), (ra 12, aI E 6 (fun j => g j 7)), (ra 13, aI E 6 (fun j => g j 8)), (ra 11, aI E 6 (up (fun j => wkOf (g j)) k (wkOf (work1 (g k))))), (ra 5, aI E 6 (up (fun j => g j 0) k (give1 (g k) 0))), (ra 4, aI E 6 (fun j => S j 3)), (ra 1, aI E 6 (fun j => S j 0)), (ra 2, aI E 6 (fun j => S j 1)), (ra 3, aI E 6 (fun j => S j 2)), (ra 7, aI E 6 (fun j => g j 4)), (ra 8, aI E 6 (fun j => g j 5)), (ra 9, aI E 6 (fun j => g j 6)), (ra 10, aI E 6 (up (fun j => g j 10) k ((g k 10) + 1))), (ra 26, aI E 200 lt), (ra 27, aI E 200 bo), (ra 28, aI E 200 wg)]) 15 dX7_steps_146 rfl rfl (by decide) (by omega) (by omega) ?_
              refine g_iconst dX7_steps_147 ?_
              exact g_iret hRet dX7_steps_148 rfl ⟨3, (work1 (g k)), 0, 0, so, ta, (up (fun j => g j 0) k (give1 (g k) 0)), (up (fun j => wkOf (g j)) k (wkOf (work1 (g k)))), (fun j => g j 4), (fun j => g j 5), (fun j => g j 6), (fun j => g j 7), (fun j => g j 8), (up (fun j => g j 10) k ((g k 10) + 1)), (by first | (exfalso; omega) | (unfold sStep; rw [if_neg hflt, if_neg (by omega), if_neg (by omega), if_neg (by omega)]; refine ⟨rfl, ?_, ?_⟩; (first | (rw [if_pos (by omega)]; omega) | (rw [if_neg (by omega)]; omega) | rw [if_pos (by omega)] | rw [if_neg (by omega)]); unfold sFin; rw [if_pos (by rw [work1_3]; omega)]; exact ⟨rfl, rfl⟩)), (by constructor <;> (split <;> rfl)), (by rw [← (gapN_c (c := give1 (g k)) (by rw [work1_o _ 0 (by omega) (by omega)]))]; exact gapN_0), (by rfl), (by exact ⟨colS (by rw [work1_o _ 4 (by omega) (by omega), give1_o _ 4 (by omega) (by omega)]), colS (by rw [work1_o _ 5 (by omega) (by omega), give1_o _ 5 (by omega) (by omega)]), colS (by rw [work1_o _ 6 (by omega) (by omega), give1_o _ 6 (by omega) (by omega)]), colS (by rw [work1_o _ 7 (by omega) (by omega), give1_o _ 7 (by omega) (by omega)]), colS (by rw [work1_o _ 8 (by omega) (by omega), give1_o _ 8 (by omega) (by omega)])⟩), (by rw [if_pos rfl]; congr 1; rw [work1_o _ 10 (by omega) (by omega), give1_o _ 10 (by omega) (by omega)]), (by omega), rfl, rfl⟩
            · refine g_aload_n 0 dX7_steps_132 rfl rfl ?_
              refine g_iload_n 1 dX7_steps_133 rfl rfl ?_
              refine g_callV_v (n := 1) (As := [.int (iI k)]) (wr := [(ra 15, aI E 8 fm), (ra 16, aI E 8 fa), (ra 17, aI E 8 fb), (ra 5, aI E 6 (up (fun j => g j 0) k (give1 (g k) 0))), (ra 4, aI E 6 (fun j => S j 3)), (ra 1, aI E 6 (fun j => S j 0)), (ra 10, aI E 6 (fun j => g j 10))]) (C := RX7) [] (c_X7_finishes E m0 ra mm nf ti so ta go sl lo cn lx ly pm pi g S (work1 (g k)) (up (fun j => wkOf (g j)) k (wkOf (work1 (g k)))) lt bo wg k (by omega) (by omega) (by first | exact hso | (rw [hft2.1]; have q3 := hft.2; rw [hav] at q3; (repeat' split) <;> (try (rw [if_pos (by assumption)] at q3)) <;> omega)) (by omega) (by omega) (by omega) (by omega) (by exact (by rw [work1_o _ 4 (by omega) (by omega), give1_o _ 4 (by omega) (by omega)])) (by rw [work1_o _ 5 (by omega) (by omega), give1_o _ 5 (by omega) (by omega)]) (by rw [work1_o _ 6 (by omega) (by omega), give1_o _ 6 (by omega) (by omega)]) (by rw [work1_o _ 7 (by omega) (by omega), give1_o _ 7 (by omega) (by omega)]) (by rw [work1_o _ 8 (by omega) (by omega), give1_o _ 8 (by omega) (by omega)]) (by rw [work1_o _ 2 (by omega) (by omega), give1_2]) (by rw [work1_o _ 7 (by omega) (by omega), give1_o _ 7 (by omega) (by omega)]; omega) (by exact hs)) [0, 10, 11, 12, 13, 14, 4, 5, 6, 16, 17, 18] [1, 2, 3, 7, 8, 9, 15] 0 rfl rfl gX7_steps_X7_finishes rfl ⟨rfl, by decide +kernel⟩ ⟨by decide, by decide⟩ rfl rfl rfl rfl rfl (by decide) rfl (by decide) (by decide) (fun _ h => absurd h List.not_mem_nil) dX7_steps_134 rfl (Nat.le_of_ble_eq_true rfl) ⟨by decide, by decide⟩ (fun u p_55 => ?_)
              obtain ⟨cc, gdd, hfe, hfw, rfl⟩ := p_55
              refine g_perm (ws1 := [(m0, oo 7 (fMo ra mm nf ti so ta (if gdd = 0 then go else go + 1) sl lo (if gdd = 1 ∧ cn < 200 then cn + 1 else cn) lx ly pm pi)), (ra 15, aI E 8 fm), (ra 16, aI E 8 fa), (ra 17, aI E 8 fb), (ra 12, aI E 6 (up (fun j => g j 7) k (cc 7))), (ra 13, aI E 6 (up (fun j => g j 8) k (cc 8))), (ra 11, aI E 6 (up (up (fun j => wkOf (g j)) k (wkOf (work1 (g k)))) k (if cc 2 = 1 then 100 else -1))), (ra 5, aI E 6 (up (fun j => g j 0) k (give1 (g k) 0))), (ra 4, aI E 6 (fun j => S j 3)), (ra 1, aI E 6 (fun j => S j 0)), (ra 2, aI E 6 (fun j => S j 1)), (ra 3, aI E 6 (fun j => S j 2)), (ra 7, aI E 6 (up (fun j => g j 4) k (cc 4))), (ra 8, aI E 6 (up (fun j => g j 5) k (cc 5))), (ra 9, aI E 6 (up (fun j => g j 6) k (cc 6))), (ra 10, aI E 6 (fun j => g j 10)), (ra 26, aI E 200 (if gdd = 1 ∧ cn < 200 then up lt cn lo else lt)), (ra 27, aI E 200 (if gdd = 1 ∧ cn < 200 then up bo cn (-4) else bo)), (ra 28, aI E 200 (if gdd = 1 ∧ cn < 200 then up wg cn (-4) else wg))]) [7, 0, 1, 2, 13, 14, 15, 3, 4, 5, 8, 9, 10, 11, 12, 6, 16, 17, 18] rfl (by decide) rfl ?_
              refine g_aload_n 0 dX7_steps_137 rfl rfl ?_
              refine g_get (C := RX7) (T := TX7) (N := 43) 0 10 (fun _ h => List.mem_cons_of_mem _ (List.mem_append_right _ h)) (List.mem_of_getElem? (i := 8) rfl) rfl rfl (by decide) rfl rfl dX7_steps_138 ?_
              refine g_iload_n 1 dX7_steps_141 rfl rfl ?_
              refine g_dup2 dX7_steps_142 rfl rfl ?_
              refine g_iald 15 dX7_steps_143 rfl (by decide) (by omega) (by omega) ?_
              refine g_top (y := iI (g k 10)) rfl ?_
              refine g_iconst dX7_steps_144 ?_
              refine g_iadd dX7_steps_145 ?_
              refine g_iast (ws1 := [(m0, oo 7 (fMo ra mm nf ti so ta (if gdd = 0 then go else go + 1) sl lo (if gdd = 1 ∧ cn < 200 then cn + 1 else cn) lx ly pm pi)), (ra 15, aI E 8 fm), (ra 16, aI E 8 fa), (ra 17, aI E 8 fb), (ra 12, aI E 6 (up (fun j => g j 7) k (cc 7))), (ra 13, aI E 6 (up (fun j => g j 8) k (cc 8))), (ra 11, aI E 6 (up (up (fun j => wkOf (g j)) k (wkOf (work1 (g k)))) k (if cc 2 = 1 then 100 else -1))), (ra 5, aI E 6 (up (fun j => g j 0) k (give1 (g k) 0))), (ra 4, aI E 6 (fun j => S j 3)), (ra 1, aI E 6 (fun j => S j 0)), (ra 2, aI E 6 (fun j => S j 1)), (ra 3, aI E 6 (fun j => S j 2)), (ra 7, aI E 6 (up (fun j => g j 4) k (cc 4))), (ra 8, aI E 6 (up (fun j => g j 5) k (cc 5))), (ra 9, aI E 6 (up (fun j => g j 6) k (cc 6))), (ra 10, aI E 6 (up (fun j => g j 10) k ((g k 10) + 1))), (ra 26, aI E 200 (if gdd = 1 ∧ cn < 200 then up lt cn lo else lt)), (ra 27, aI E 200 (if gdd = 1 ∧ cn < 200 then up bo cn (-4) else bo)), (ra 28, aI E 200 (if gdd = 1 ∧ cn < 200 then up wg cn (-4) else wg))]) 15 dX7_steps_146 rfl rfl (by decide) (by omega) (by omega) ?_
              refine g_iconst dX7_steps_147 ?_
              exact g_iret hRet dX7_steps_148 rfl ⟨3, cc, 0, gdd, so, ta, (up (fun j => g j 0) k (give1 (g k) 0)), (up (up (fun j => wkOf (g j)) k (wkOf (work1 (g k)))) k (if cc 2 = 1 then 100 else -1)), (up (fun j => g j 4) k (cc 4)), (up (fun j => g j 5) k (cc 5)), (up (fun j => g j 6) k (cc 6)), (up (fun j => g j 7) k (cc 7)), (up (fun j => g j 8) k (cc 8)), (up (fun j => g j 10) k ((g k 10) + 1)), (by first | (exfalso; omega) | (unfold sStep; rw [if_neg hflt, if_neg (by omega), if_neg (by omega), if_neg (by omega)]; refine ⟨rfl, ?_, ?_⟩; (first | (rw [if_pos (by omega)]; omega) | (rw [if_neg (by omega)]; omega) | rw [if_pos (by omega)] | rw [if_neg (by omega)]); unfold sFin; rw [if_neg (by rw [work1_3]; omega)]; exact hfe)), (by constructor <;> (split <;> rfl)), (by rw [← (gapN_c (c := give1 (g k)) (by rw [(sEnd_f hfe).1, work1_o _ 0 (by omega) (by omega)]))]; exact gapN_0), (by rw [up_up, ← hfw.1]), (by exact ⟨rfl, rfl, rfl, rfl, rfl⟩), (by rw [if_pos rfl]; congr 1; rw [(sEnd_f hfe).2, work1_o _ 10 (by omega) (by omega), give1_o _ 10 (by omega) (by omega)]), (by exact hfw.2), rfl, rfl⟩
          · refine g_aload_n 0 dX7_steps_90 rfl rfl ?_
            refine g_iload_n 1 dX7_steps_91 rfl rfl ?_
            refine g_callV_i (n := 1) (As := [.int (iI k)]) (wr := [(ra 15, aI E 8 fm), (ra 16, aI E 8 fa), (ra 17, aI E 8 fb), (ra 12, aI E 6 (fun j => g j 7)), (ra 13, aI E 6 (fun j => g j 8)), (ra 11, aI E 6 (up (fun j => wkOf (g j)) k (wkOf (give1 (g k))))), (ra 4, aI E 6 (fun j => S j 3)), (ra 1, aI E 6 (fun j => S j 0)), (ra 2, aI E 6 (fun j => S j 1)), (ra 3, aI E 6 (fun j => S j 2)), (ra 7, aI E 6 (fun j => g j 4)), (ra 8, aI E 6 (fun j => g j 5)), (ra 9, aI E 6 (fun j => g j 6)), (ra 10, aI E 6 (fun j => g j 10)), (ra 26, aI E 200 lt), (ra 27, aI E 200 bo), (ra 28, aI E 200 wg)]) (C := RX7) [] (c_X7_takes E m0 ra mm nf ti so ta go sl lo cn lx ly pm pi (up (fun j => g j 0) k (give1 (g k) 0)) k (by omega) (by omega) (by omega) (by omega) (by omega) (by omega) (by omega) (by exact hgp)) [0, 7] [1, 2, 3, 4, 5, 6, 8, 9, 10, 11, 12, 13, 14, 15, 16, 17, 18] 0 rfl rfl gX7_steps_X7_takes rfl ⟨rfl, by decide +kernel⟩ ⟨by decide, by decide⟩ rfl rfl rfl rfl rfl (by decide) rfl (by decide) (by decide) (fun _ h => absurd h List.not_mem_nil) dX7_steps_92 rfl (Nat.le_of_ble_eq_true rfl) ⟨by decide, by decide⟩ (fun r u p_56 => ?_)
            obtain ⟨tkw, so_57, ta_58, gp_59, hft, hft2, hft3, rfl, rfl⟩ := p_56
            refine g_perm (ws1 := [(m0, oo 7 (fMo ra mm nf ti so_57 ta_58 go sl lo cn lx ly pm pi)), (ra 15, aI E 8 fm), (ra 16, aI E 8 fa), (ra 17, aI E 8 fb), (ra 12, aI E 6 (fun j => g j 7)), (ra 13, aI E 6 (fun j => g j 8)), (ra 11, aI E 6 (up (fun j => wkOf (g j)) k (wkOf (give1 (g k))))), (ra 5, aI E 6 gp_59), (ra 4, aI E 6 (fun j => S j 3)), (ra 1, aI E 6 (fun j => S j 0)), (ra 2, aI E 6 (fun j => S j 1)), (ra 3, aI E 6 (fun j => S j 2)), (ra 7, aI E 6 (fun j => g j 4)), (ra 8, aI E 6 (fun j => g j 5)), (ra 9, aI E 6 (fun j => g j 6)), (ra 10, aI E 6 (fun j => g j 10)), (ra 26, aI E 200 lt), (ra 27, aI E 200 bo), (ra 28, aI E 200 wg)]) [17, 0, 1, 2, 3, 4, 5, 18, 6, 7, 8, 9, 10, 11, 12, 13, 14, 15, 16] rfl (by decide) rfl ?_
            have hav : (if k = 0 then so else up (fun j => g j 0) k (give1 (g k) 0) (k - 1)) = (if k = 0 then so else g (k - 1) 0) := by rw [up_n (fun j => g j 0) _ (show k - 1 ≠ k by omega)]
            have hav0 : 0 ≤ (if k = 0 then so else g (k - 1) 0) := by split; exact hso.1; exact (hgr (k - 1) (by omega) (by omega)).1
            refine g_if_ne (tgt := 100) (by unfold R32; omega) dX7_steps_95 rfl (fun c_60 => ?_) (fun c_60 => ?_)
            · refine g_iconst dX7_steps_98 ?_
              exact g_iret hRet dX7_steps_99 rfl ⟨4, (give1 (g k)), tkw, 0, so_57, ta_58, gp_59, (up (fun j => wkOf (g j)) k (wkOf (give1 (g k)))), (fun j => g j 4), (fun j => g j 5), (fun j => g j 6), (fun j => g j 7), (fun j => g j 8), (fun j => g j 10), (by unfold sStep; rw [if_neg hflt, if_neg (by omega), if_neg (by omega), if_pos (by rw [← hav]; have q3 := hft.2.mp (by omega); have q4 := hwg; refine ⟨?_, q3⟩; rw [hwg] at *; split at * <;> omega)]; exact ⟨rfl, rfl, by omega, rfl⟩), (by exact hft2), (by rw [hft3]; exact gapN_tk), (by rfl), (by exact ⟨colS (give1_o _ 4 (by omega) (by omega)), colS (give1_o _ 5 (by omega) (by omega)), colS (give1_o _ 6 (by omega) (by omega)), colS (give1_o _ 7 (by omega) (by omega)), colS (give1_o _ 8 (by omega) (by omega))⟩), (by rw [if_neg (by omega)]; exact colS (give1_o _ 10 (by omega) (by omega))), (by omega), rfl, rfl⟩
            · refine g_aload_n 0 dX7_steps_100 rfl rfl ?_
              refine g_get (C := RX7) (T := TX7) (N := 43) 0 11 (fun _ h => List.mem_cons_of_mem _ (List.mem_append_right _ h)) (List.mem_of_getElem? (i := 4) rfl) rfl rfl (by decide) rfl rfl dX7_steps_101 ?_
              refine g_iload_n 1 dX7_steps_104 rfl rfl ?_
              refine g_iconst dX7_steps_105 ?_
              refine g_iast (ws1 := [(m0, oo 7 (fMo ra mm nf ti so_57 ta_58 go sl lo cn lx ly pm pi)), (ra 15, aI E 8 fm), (ra 16, aI E 8 fa), (ra 17, aI E 8 fb), (ra 12, aI E 6 (fun j => g j 7)), (ra 13, aI E 6 (fun j => g j 8)), (ra 11, aI E 6 (up (up (fun j => wkOf (g j)) k (wkOf (give1 (g k)))) k 0)), (ra 5, aI E 6 gp_59), (ra 4, aI E 6 (fun j => S j 3)), (ra 1, aI E 6 (fun j => S j 0)), (ra 2, aI E 6 (fun j => S j 1)), (ra 3, aI E 6 (fun j => S j 2)), (ra 7, aI E 6 (fun j => g j 4)), (ra 8, aI E 6 (fun j => g j 5)), (ra 9, aI E 6 (fun j => g j 6)), (ra 10, aI E 6 (fun j => g j 10)), (ra 26, aI E 200 lt), (ra 27, aI E 200 bo), (ra 28, aI E 200 wg)]) 6 dX7_steps_106 rfl rfl (by decide) (by omega) (by omega) ?_
              refine g_aload_n 0 dX7_steps_107 rfl rfl ?_
              refine g_get (C := RX7) (T := TX7) (N := 43) 0 11 (fun _ h => List.mem_cons_of_mem _ (List.mem_append_right _ h)) (List.mem_of_getElem? (i := 4) rfl) rfl rfl (by decide) rfl rfl dX7_steps_108 ?_
              refine g_iload_n 1 dX7_steps_111 rfl rfl ?_
              refine g_dup2 dX7_steps_112 rfl rfl ?_
              refine g_iald 6 dX7_steps_113 rfl (by decide) (by omega) (by omega) ?_
              refine g_top (y := iI 0) (congrArg iI (up_s _ _ _)) ?_
              refine g_iconst dX7_steps_114 ?_
              refine g_iadd dX7_steps_115 ?_
              refine g_iast (ws1 := [(m0, oo 7 (fMo ra mm nf ti so_57 ta_58 go sl lo cn lx ly pm pi)), (ra 15, aI E 8 fm), (ra 16, aI E 8 fa), (ra 17, aI E 8 fb), (ra 12, aI E 6 (fun j => g j 7)), (ra 13, aI E 6 (fun j => g j 8)), (ra 11, aI E 6 (up (up (up (fun j => wkOf (g j)) k (wkOf (give1 (g k)))) k 0) k (0 + 1))), (ra 5, aI E 6 gp_59), (ra 4, aI E 6 (fun j => S j 3)), (ra 1, aI E 6 (fun j => S j 0)), (ra 2, aI E 6 (fun j => S j 1)), (ra 3, aI E 6 (fun j => S j 2)), (ra 7, aI E 6 (fun j => g j 4)), (ra 8, aI E 6 (fun j => g j 5)), (ra 9, aI E 6 (fun j => g j 6)), (ra 10, aI E 6 (fun j => g j 10)), (ra 26, aI E 200 lt), (ra 27, aI E 200 bo), (ra 28, aI E 200 wg)]) 6 dX7_steps_116 rfl rfl (by decide) (by omega) (by omega) ?_
              have hU_61 : (up (fun j => wkOf (g j)) k (wkOf (work1 (g k)))) = (up (up (up (fun j => wkOf (g j)) k (wkOf (give1 (g k)))) k 0) k (0 + 1)) := by (repeat rw [up_up]); rw [wk_w hc]; congr 1; first | omega | (rw [wk_g hc, if_pos (by omega)])
              refine g_as (ws1 := [(m0, oo 7 (fMo ra mm nf ti so_57 ta_58 go sl lo cn lx ly pm pi)), (ra 15, aI E 8 fm), (ra 16, aI E 8 fa), (ra 17, aI E 8 fb), (ra 12, aI E 6 (fun j => g j 7)), (ra 13, aI E 6 (fun j => g j 8)), (ra 11, aI E 6 (up (fun j => wkOf (g j)) k (wkOf (work1 (g k))))), (ra 5, aI E 6 gp_59), (ra 4, aI E 6 (fun j => S j 3)), (ra 1, aI E 6 (fun j => S j 0)), (ra 2, aI E 6 (fun j => S j 1)), (ra 3, aI E 6 (fun j => S j 2)), (ra 7, aI E 6 (fun j => g j 4)), (ra 8, aI E 6 (fun j => g j 5)), (ra 9, aI E 6 (fun j => g j 6)), (ra 10, aI E 6 (fun j => g j 10)), (ra 26, aI E 200 lt), (ra 27, aI E 200 bo), (ra 28, aI E 200 wg)]) ?_ (by rw [hU_61]) rfl rfl
              have hww := wk_w hc
              refine g_aload_n 0 dX7_steps_117 rfl rfl ?_
              refine g_get (C := RX7) (T := TX7) (N := 43) 0 11 (fun _ h => List.mem_cons_of_mem _ (List.mem_append_right _ h)) (List.mem_of_getElem? (i := 4) rfl) rfl rfl (by decide) rfl rfl dX7_steps_118 ?_
              refine g_iload_n 1 dX7_steps_121 rfl rfl ?_
              refine g_iald 6 dX7_steps_122 rfl (by decide) (by omega) (by omega) ?_
              refine g_top (y := iI (wkOf (work1 (g k)))) (congrArg iI (up_s _ _ _)) ?_
              refine g_aload_n 0 dX7_steps_123 rfl rfl ?_
              refine g_get (C := RX7) (T := TX7) (N := 43) 0 1 (fun _ h => List.mem_cons_of_mem _ (List.mem_append_right _ h)) (List.mem_of_getElem? (i := 7) rfl) rfl rfl (by decide) rfl rfl dX7_steps_124 ?_
              refine g_iload_n 1 dX7_steps_127 rfl rfl ?_
              refine g_iald 9 dX7_steps_128 rfl (by decide) (by omega) (by omega) ?_
              refine g_top (y := iI (S k 0)) rfl ?_
              refine g_icmp_lt (tgt := 137) (by unfold R32; omega) (by unfold R32; omega) dX7_steps_129 rfl (fun c_62 => ?_) (fun c_62 => ?_)
              · refine g_aload_n 0 dX7_steps_137 rfl rfl ?_
                refine g_get (C := RX7) (T := TX7) (N := 43) 0 10 (fun _ h => List.mem_cons_of_mem _ (List.mem_append_right _ h)) (List.mem_of_getElem? (i := 8) rfl) rfl rfl (by decide) rfl rfl dX7_steps_138 ?_
                refine g_iload_n 1 dX7_steps_141 rfl rfl ?_
                refine g_dup2 dX7_steps_142 rfl rfl ?_
                refine g_iald 15 dX7_steps_143 rfl (by decide) (by omega) (by omega) ?_
                refine g_top (y := iI (g k 10)) rfl ?_
                refine g_iconst dX7_steps_144 ?_
                refine g_iadd dX7_steps_145 ?_
                refine g_iast (ws1 := [(m0, oo 7 (fMo ra mm nf ti so_57 ta_58 go sl lo cn lx ly pm pi)), (ra 15, aI E 8 fm), (ra 16, aI E 8 fa), (ra 17, aI E 8 fb), (ra 12, aI E 6 (fun j => g j 7)), (ra 13, aI E 6 (fun j => g j 8)), (ra 11, aI E 6 (up (fun j => wkOf (g j)) k (wkOf (work1 (g k))))), (ra 5, aI E 6 gp_59), (ra 4, aI E 6 (fun j => S j 3)), (ra 1, aI E 6 (fun j => S j 0)), (ra 2, aI E 6 (fun j => S j 1)), (ra 3, aI E 6 (fun j => S j 2)), (ra 7, aI E 6 (fun j => g j 4)), (ra 8, aI E 6 (fun j => g j 5)), (ra 9, aI E 6 (fun j => g j 6)), (ra 10, aI E 6 (up (fun j => g j 10) k ((g k 10) + 1))), (ra 26, aI E 200 lt), (ra 27, aI E 200 bo), (ra 28, aI E 200 wg)]) 15 dX7_steps_146 rfl rfl (by decide) (by omega) (by omega) ?_
                refine g_iconst dX7_steps_147 ?_
                exact g_iret hRet dX7_steps_148 rfl ⟨3, (work1 (g k)), tkw, 0, so_57, ta_58, gp_59, (up (fun j => wkOf (g j)) k (wkOf (work1 (g k)))), (fun j => g j 4), (fun j => g j 5), (fun j => g j 6), (fun j => g j 7), (fun j => g j 8), (up (fun j => g j 10) k ((g k 10) + 1)), (by first | (exfalso; omega) | (unfold sStep; rw [if_neg hflt, if_neg (by omega), if_neg (by omega), if_neg (by intro q; have q3 := hft.2.mpr (by rw [hav]; exact q.2); omega)]; refine ⟨rfl, ?_, ?_⟩; (first | (rw [if_pos (by omega)]; omega) | (rw [if_neg (by omega)]; omega) | rw [if_pos (by omega)] | rw [if_neg (by omega)]); unfold sFin; rw [if_pos (by rw [work1_3]; omega)]; exact ⟨rfl, rfl⟩)), (by exact hft2), (by rw [← (gapN_c (c := give1 (g k)) (by rw [work1_o _ 0 (by omega) (by omega)]))]; rw [hft3]; exact gapN_tk), (by rfl), (by exact ⟨colS (by rw [work1_o _ 4 (by omega) (by omega), give1_o _ 4 (by omega) (by omega)]), colS (by rw [work1_o _ 5 (by omega) (by omega), give1_o _ 5 (by omega) (by omega)]), colS (by rw [work1_o _ 6 (by omega) (by omega), give1_o _ 6 (by omega) (by omega)]), colS (by rw [work1_o _ 7 (by omega) (by omega), give1_o _ 7 (by omega) (by omega)]), colS (by rw [work1_o _ 8 (by omega) (by omega), give1_o _ 8 (by omega) (by omega)])⟩), (by rw [if_pos rfl]; congr 1; rw [work1_o _ 10 (by omega) (by omega), give1_o _ 10 (by omega) (by omega)]), (by omega), rfl, rfl⟩
              · refine g_aload_n 0 dX7_steps_132 rfl rfl ?_
                refine g_iload_n 1 dX7_steps_133 rfl rfl ?_
                refine g_callV_v (n := 1) (As := [.int (iI k)]) (wr := [(ra 15, aI E 8 fm), (ra 16, aI E 8 fa), (ra 17, aI E 8 fb), (ra 5, aI E 6 gp_59), (ra 4, aI E 6 (fun j => S j 3)), (ra 1, aI E 6 (fun j => S j 0)), (ra 10, aI E 6 (fun j => g j 10))]) (C := RX7) [] (c_X7_finishes E m0 ra mm nf ti so_57 ta_58 go sl lo cn lx ly pm pi g S (work1 (g k)) (up (fun j => wkOf (g j)) k (wkOf (work1 (g k)))) lt bo wg k (by omega) (by omega) (by first | exact hso | (rw [hft2.1]; have q3 := hft.2; rw [hav] at q3; (repeat' split) <;> (try (rw [if_pos (by assumption)] at q3)) <;> omega)) (by omega) (by omega) (by omega) (by omega) (by exact (by rw [work1_o _ 4 (by omega) (by omega), give1_o _ 4 (by omega) (by omega)])) (by rw [work1_o _ 5 (by omega) (by omega), give1_o _ 5 (by omega) (by omega)]) (by rw [work1_o _ 6 (by omega) (by omega), give1_o _ 6 (by omega) (by omega)]) (by rw [work1_o _ 7 (by omega) (by omega), give1_o _ 7 (by omega) (by omega)]) (by rw [work1_o _ 8 (by omega) (by omega), give1_o _ 8 (by omega) (by omega)]) (by rw [work1_o _ 2 (by omega) (by omega), give1_2]) (by rw [work1_o _ 7 (by omega) (by omega), give1_o _ 7 (by omega) (by omega)]; omega) (by exact hs)) [0, 10, 11, 12, 13, 14, 4, 5, 6, 16, 17, 18] [1, 2, 3, 7, 8, 9, 15] 0 rfl rfl gX7_steps_X7_finishes rfl ⟨rfl, by decide +kernel⟩ ⟨by decide, by decide⟩ rfl rfl rfl rfl rfl (by decide) rfl (by decide) (by decide) (fun _ h => absurd h List.not_mem_nil) dX7_steps_134 rfl (Nat.le_of_ble_eq_true rfl) ⟨by decide, by decide⟩ (fun u p_63 => ?_)
                obtain ⟨cc, gdd, hfe, hfw, rfl⟩ := p_63
                refine g_perm (ws1 := [(m0, oo 7 (fMo ra mm nf ti so_57 ta_58 (if gdd = 0 then go else go + 1) sl lo (if gdd = 1 ∧ cn < 200 then cn + 1 else cn) lx ly pm pi)), (ra 15, aI E 8 fm), (ra 16, aI E 8 fa), (ra 17, aI E 8 fb), (ra 12, aI E 6 (up (fun j => g j 7) k (cc 7))), (ra 13, aI E 6 (up (fun j => g j 8) k (cc 8))), (ra 11, aI E 6 (up (up (fun j => wkOf (g j)) k (wkOf (work1 (g k)))) k (if cc 2 = 1 then 100 else -1))), (ra 5, aI E 6 gp_59), (ra 4, aI E 6 (fun j => S j 3)), (ra 1, aI E 6 (fun j => S j 0)), (ra 2, aI E 6 (fun j => S j 1)), (ra 3, aI E 6 (fun j => S j 2)), (ra 7, aI E 6 (up (fun j => g j 4) k (cc 4))), (ra 8, aI E 6 (up (fun j => g j 5) k (cc 5))), (ra 9, aI E 6 (up (fun j => g j 6) k (cc 6))), (ra 10, aI E 6 (fun j => g j 10)), (ra 26, aI E 200 (if gdd = 1 ∧ cn < 200 then up lt cn lo else lt)), (ra 27, aI E 200 (if gdd = 1 ∧ cn < 200 then up bo cn (-4) else bo)), (ra 28, aI E 200 (if gdd = 1 ∧ cn < 200 then up wg cn (-4) else wg))]) [7, 0, 1, 2, 13, 14, 15, 3, 4, 5, 8, 9, 10, 11, 12, 6, 16, 17, 18] rfl (by decide) rfl ?_
                refine g_aload_n 0 dX7_steps_137 rfl rfl ?_
                refine g_get (C := RX7) (T := TX7) (N := 43) 0 10 (fun _ h => List.mem_cons_of_mem _ (List.mem_append_right _ h)) (List.mem_of_getElem? (i := 8) rfl) rfl rfl (by decide) rfl rfl dX7_steps_138 ?_
                refine g_iload_n 1 dX7_steps_141 rfl rfl ?_
                refine g_dup2 dX7_steps_142 rfl rfl ?_
                refine g_iald 15 dX7_steps_143 rfl (by decide) (by omega) (by omega) ?_
                refine g_top (y := iI (g k 10)) rfl ?_
                refine g_iconst dX7_steps_144 ?_
                refine g_iadd dX7_steps_145 ?_
                refine g_iast (ws1 := [(m0, oo 7 (fMo ra mm nf ti so_57 ta_58 (if gdd = 0 then go else go + 1) sl lo (if gdd = 1 ∧ cn < 200 then cn + 1 else cn) lx ly pm pi)), (ra 15, aI E 8 fm), (ra 16, aI E 8 fa), (ra 17, aI E 8 fb), (ra 12, aI E 6 (up (fun j => g j 7) k (cc 7))), (ra 13, aI E 6 (up (fun j => g j 8) k (cc 8))), (ra 11, aI E 6 (up (up (fun j => wkOf (g j)) k (wkOf (work1 (g k)))) k (if cc 2 = 1 then 100 else -1))), (ra 5, aI E 6 gp_59), (ra 4, aI E 6 (fun j => S j 3)), (ra 1, aI E 6 (fun j => S j 0)), (ra 2, aI E 6 (fun j => S j 1)), (ra 3, aI E 6 (fun j => S j 2)), (ra 7, aI E 6 (up (fun j => g j 4) k (cc 4))), (ra 8, aI E 6 (up (fun j => g j 5) k (cc 5))), (ra 9, aI E 6 (up (fun j => g j 6) k (cc 6))), (ra 10, aI E 6 (up (fun j => g j 10) k ((g k 10) + 1))), (ra 26, aI E 200 (if gdd = 1 ∧ cn < 200 then up lt cn lo else lt)), (ra 27, aI E 200 (if gdd = 1 ∧ cn < 200 then up bo cn (-4) else bo)), (ra 28, aI E 200 (if gdd = 1 ∧ cn < 200 then up wg cn (-4) else wg))]) 15 dX7_steps_146 rfl rfl (by decide) (by omega) (by omega) ?_
                refine g_iconst dX7_steps_147 ?_
                exact g_iret hRet dX7_steps_148 rfl ⟨3, cc, tkw, gdd, so_57, ta_58, gp_59, (up (up (fun j => wkOf (g j)) k (wkOf (work1 (g k)))) k (if cc 2 = 1 then 100 else -1)), (up (fun j => g j 4) k (cc 4)), (up (fun j => g j 5) k (cc 5)), (up (fun j => g j 6) k (cc 6)), (up (fun j => g j 7) k (cc 7)), (up (fun j => g j 8) k (cc 8)), (up (fun j => g j 10) k ((g k 10) + 1)), (by first | (exfalso; omega) | (unfold sStep; rw [if_neg hflt, if_neg (by omega), if_neg (by omega), if_neg (by intro q; have q3 := hft.2.mpr (by rw [hav]; exact q.2); omega)]; refine ⟨rfl, ?_, ?_⟩; (first | (rw [if_pos (by omega)]; omega) | (rw [if_neg (by omega)]; omega) | rw [if_pos (by omega)] | rw [if_neg (by omega)]); unfold sFin; rw [if_neg (by rw [work1_3]; omega)]; exact hfe)), (by exact hft2), (by rw [← (gapN_c (c := give1 (g k)) (by rw [(sEnd_f hfe).1, work1_o _ 0 (by omega) (by omega)]))]; rw [hft3]; exact gapN_tk), (by rw [up_up, ← hfw.1]), (by exact ⟨rfl, rfl, rfl, rfl, rfl⟩), (by rw [if_pos rfl]; congr 1; rw [(sEnd_f hfe).2, work1_o _ 10 (by omega) (by omega), give1_o _ 10 (by omega) (by omega)]), (by exact hfw.2), rfl, rfl⟩
      · refine g_iconst dX7_steps_34 ?_
        exact g_iret hRet dX7_steps_35 rfl ⟨1, (g k), 0, 0, so, ta, (fun j => g j 0), (fun j => wkOf (g j)), (fun j => g j 4), (fun j => g j 5), (fun j => g j 6), (fun j => g j 7), (fun j => g j 8), (fun j => g j 10), (by unfold sStep; rw [if_neg hflt, if_pos (by omega)]; exact ⟨rfl, rfl, rfl, rfl⟩), (by constructor <;> (split <;> rfl)), (by exact gapN_id rfl), (by exact (up_id (fun j => wkOf (g j)) k).symm), (by exact ⟨colS rfl, colS rfl, colS rfl, colS rfl, colS rfl⟩), (by rw [if_neg (by omega)]; exact colS rfl), (by omega), rfl, rfl⟩

end REF2
