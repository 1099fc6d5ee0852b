section FACE1
def sp_pack (cn : Int) (bo cl un ru : Int → Int) (code box x : Int) (bo' un' : Int → Int) : Prop :=
  if ¬ ((0 ≤ code ∧ code ≤ 199) ∧ 0 ≤ box ∧ box ≤ 29) then x = -1 ∧ bo' = bo ∧ un' = un else sPack cn bo cl un code box (ru 0) x bo' un'
def sp_close (cl un ru : Int → Int) (box x : Int) (cl' : Int → Int) : Prop :=
  if ¬ (0 ≤ box ∧ box ≤ 29) then x = -1 ∧ cl' = cl else sClose cl un box (ru 0) x cl'
def sp_weigh (cn : Int) (bo cl un ru : Int → Int) (box w x : Int) (bo' un' cl' : Int → Int) : Prop :=
  if ¬ ((0 ≤ box ∧ box ≤ 29) ∧ 0 ≤ w ∧ w ≤ 1000000) then x = -1 ∧ bo' = bo ∧ un' = un ∧ cl' = cl else if w - (ru 0 * ru 2 + ru 3) < -ru 4 ∨ ru 4 < w - (ru 0 * ru 2 + ru 3) then x = -2 ∧ bo' = bo ∧ un' = un ∧ cl' = cl else sLost cn bo cl un box (ru 0) x bo' un' cl'
def sp_stack (cl pl se on ru : Int → Int) (box pal x : Int) (pl' on' : Int → Int) : Prop :=
  if ¬ ((0 ≤ box ∧ box ≤ 29) ∧ 0 ≤ pal ∧ pal ≤ 5) then x = -1 ∧ pl' = pl ∧ on' = on else sStack cl pl se on box pal (ru 1) x pl' on'
def sp_seal (on se : Int → Int) (pal x : Int) (se' : Int → Int) : Prop :=
  if ¬ (0 ≤ pal ∧ pal ≤ 5) then x = -1 ∧ se' = se else sSeal on se pal x se'
def sp_break (cn : Int) (bo cl un pl on se : Int → Int) (what i x : Int) (bo' un' cl' pl' on' se' : Int → Int) : Prop :=
  if what = 0 ∧ 0 ≤ i ∧ i ≤ 29 then sBrkB cn bo cl un pl i x bo' un' cl' ∧ pl' = pl ∧ on' = on ∧ se' = se else if what = 1 ∧ 0 ≤ i ∧ i ≤ 5 then x = on i ∧ bo' = bo ∧ un' = un ∧ cl' = cl ∧ pl' = brk pl 30 i ∧ on' = up on i 0 ∧ se' = up se i 0 else x = -1 ∧ bo' = bo ∧ un' = un ∧ cl' = cl ∧ pl' = pl ∧ on' = on ∧ se' = se
def f_code (cn : Int) (bo pl lt wg : Int → Int) (code what : Int) : Int :=
  if ¬ ((0 ≤ code ∧ code ≤ cn - 1) ∧ 0 ≤ what ∧ what ≤ 3) then -1 else if what = 0 then bo code else if what = 1 then pOf bo pl code else if what = 2 then lt code else wg code
def sp_box (cn : Int) (bo un cl pl : Int → Int) (box what x : Int) : Prop :=
  if ¬ ((0 ≤ box ∧ box ≤ 29) ∧ 0 ≤ what ∧ what ≤ 4) then x = -1 else if what = 0 then x = un box else if what = 1 then x = cl box else if what = 2 then x = pl box else if what = 3 then isL bo cn box x else isG bo cn box x
def f_recall (cn : Int) (lt bo pl : Int → Int) (lot what : Int) : Int32 :=
  if ¬ ((0 ≤ lot ∧ lot ≤ 15) ∧ 0 ≤ what ∧ what ≤ 2) then iI (-1) else if what = 0 then oI (fun k => lt k = lot ∧ 0 ≤ bo k ∧ bo k ≤ 29) (fun k => iI 1 <<< (iI (bo k) &&& 31)) cn else if what = 1 then oI (fun k => lt k = lot ∧ 0 ≤ pOf bo pl k ∧ pOf bo pl k ≤ 5) (fun k => iI 1 <<< (iI (pOf bo pl k) &&& 31)) cn else iI (sI (fun k => if lt k = lot ∧ bo k = -4 then 1 else 0) cn)
def sp_scale (cn : Int) (wg : Int → Int) (code v x : Int) (wg' : Int → Int) : Prop :=
  if ¬ ((0 ≤ code ∧ code ≤ cn - 1) ∧ 0 ≤ v ∧ v ≤ 10000) then x = -1 ∧ wg' = wg else x = wg code ∧ wg' = up wg code v
def f_scales (cn : Int) (wg ru : Int → Int) (what : Int) : Int :=
  if what = 0 then sI (fun k => if ru 2 < wg k then wg k - ru 2 else 0) cn else if what = 1 then sI (fun k => if wg k ≠ -4 ∧ wg k < ru 2 - ru 4 then 1 else 0) cn else if what = 2 then sI (fun k => if wg k ≠ -4 then 1 else 0) cn else -1
def sp_lot (lo v x lo' : Int) : Prop := if ¬ (0 ≤ v ∧ v ≤ 15) then x = -1 ∧ lo' = lo else x = lo ∧ lo' = v
def ruLo (k : Int) : Int := if k < 2 then 1 else 0
def ruHi (k : Int) : Int := if k = 0 then 12 else if k = 1 then 20 else if k < 4 then 10000 else if k = 4 then 1000 else 500
theorem ruLo_b (k : Int) : 0 ≤ ruLo k ∧ ruLo k ≤ 1 ∧ (k = 0 → ruLo k = 1) ∧ (k = 1 → ruLo k = 1) := by unfold ruLo; split <;> omega
theorem ruHi_b (k : Int) : 12 ≤ ruHi k ∧ ruHi k ≤ 10000 := by unfold ruHi; (repeat' split) <;> omega
def sp_rule (un on ru : Int → Int) (what v x : Int) (ru' : Int → Int) : Prop :=
  (¬ ((0 ≤ what ∧ what ≤ 5) ∧ ruLo what ≤ v ∧ v ≤ ruHi what) ∧ x = -1 ∧ ru' = ru) ∨ (((0 ≤ what ∧ what ≤ 5) ∧ ruLo what ≤ v ∧ v ≤ ruHi what) ∧ ((what = 0 ∧ ∃ c, 0 ≤ c ∧ c < 30 ∧ v < un c) ∨ (what = 1 ∧ ∃ c, 0 ≤ c ∧ c < 6 ∧ v < on c)) ∧ x = -2 ∧ ru' = ru) ∨ (((0 ≤ what ∧ what ≤ 5) ∧ ruLo what ≤ v ∧ v ≤ ruHi what) ∧ (what = 0 → ∀ c, 0 ≤ c → c < 30 → un c ≤ v) ∧ (what = 1 → ∀ c, 0 ≤ c → c < 6 → on c ≤ v) ∧ x = ru what ∧ ru' = up ru what v)
theorem mul_b {a b : Int} (h0 : 0 ≤ a) (h1 : a ≤ 12) (h2 : 0 ≤ b) (h3 : b ≤ 10000) : 0 ≤ a * b ∧ a * b ≤ 120000 := by
  have e := Int.mul_le_mul_of_nonneg_right h1 h2
  exact ⟨Int.mul_nonneg h0 h2, by omega⟩

set_option maxHeartbeats 4000000 in
set_option maxRecDepth 100000 in
theorem c_X6_pack (E : Ev) (x0 : Nat) (a1 : Nat) (a3 : Nat) (a4 : Nat) (a5 : Nat) (lo : Int) (ru : Int → Int) (h0 : Nat) (b1 : Nat) (b2 : Nat) (b3 : Nat) (b4 : Nat) (b5 : Nat) (b6 : Nat) (b7 : Nat) (b8 : Nat) (cn : Int) (bo : Int → Int) (un : Int → Int) (cl : Int → Int) (code : Int) (box : Int) (hcn : 0 ≤ cn ∧ cn ≤ 200) (hru : (1 ≤ ru 0 ∧ ru 0 ≤ 12) ∧ (1 ≤ ru 1 ∧ ru 1 ≤ 20) ∧ (0 ≤ ru 2 ∧ ru 2 ≤ 10000) ∧ (0 ≤ ru 3 ∧ ru 3 ≤ 10000) ∧ (0 ≤ ru 4 ∧ ru 4 ≤ 1000) ∧ (0 ≤ ru 5 ∧ ru 5 ≤ 500)) (hbo : ∀ k, -4 ≤ bo k ∧ bo k ≤ 29) (hun : ∀ k, 0 ≤ un k ∧ un k ≤ 200) (hcl : ∀ k, 0 ≤ cl k ∧ cl k ≤ 1) (h_code : -2147483648 ≤ code ∧ code ≤ 2147483647) (h_box : -2147483648 ≤ box ∧ box ≤ 2147483647) : MI yX6_pack wsX6_pack ({ frames := 3, cells := 0, slots := 0, locals := 66 } : Room) E [] 0 0 [.ref x0, .int (iI code), .int (iI box)] [(x0, oo 6 [.ref a1, .ref h0, .ref a3, .ref a4, .ref a5, .int (iI lo)]), (a5, aI E 6 ru), (h0, oo 0 [.int (iI cn), .ref b1, .ref b2, .ref b3, .ref b4, .ref b5, .ref b6, .ref b7, .ref b8]), (b1, aI E 200 bo), (b4, aI E 30 un), (b5, aZ E 30 cl)] (fun r u => ∃ (x : Int), ∃ (bo' : Int → Int), ∃ (un' : Int → Int), sp_pack cn bo cl un ru code box x bo' un' ∧ r = iI x ∧ u = [(x0, oo 6 [.ref a1, .ref h0, .ref a3, .ref a4, .ref a5, .int (iI lo)]), (a5, aI E 6 ru), (h0, oo 0 [.int (iI cn), .ref b1, .ref b2, .ref b3, .ref b4, .ref b5, .ref b6, .ref b7, .ref b8]), (b1, aI E 200 bo'), (b4, aI E 30 un'), (b5, aZ E 30 cl)]) := by
  refine MI.of (cc := cX6_pack) (maxL := 3) (own := RX6) (by decide) rfl rfl rfl (Nat.le_of_ble_eq_true rfl) [(0, .ref x0), (1, .int (iI code)), (2, .int (iI box))] rfl ?_
  intro X hin2 hRet
  refine g_iload_n 1 dX6_pack_0 rfl rfl ?_
  refine g_iconst dX6_pack_1 ?_
  refine g_sipush dX6_pack_2 rfl ?_
  refine g_callS_i (n := 3) (As := [.int (iI code), .int (iI 0), .int (iI 199)]) (wr := [(x0, oo 6 [.ref a1, .ref h0, .ref a3, .ref a4, .ref a5, .int (iI lo)]), (a5, aI E 6 ru), (h0, oo 0 [.int (iI cn), .ref b1, .ref b2, .ref b3, .ref b4, .ref b5, .ref b6, .ref b7, .ref b8]), (b1, aI E 200 bo), (b4, aI E 30 un), (b5, aZ E 30 cl)]) [] (c_X6_within E code 0 199 (by omega) (by omega) (by omega)) [] [0, 1, 2, 3, 4, 5] gX6_pack_X6_within rfl ⟨rfl, by decide +kernel⟩ ⟨by decide, by decide⟩ rfl rfl rfl rfl rfl (by decide) rfl (by decide) (by decide) (fun _ h => absurd h List.not_mem_nil) dX6_pack_5 rfl (Nat.le_of_ble_eq_true rfl) ⟨by decide, by decide⟩ (fun r u p_1 => ?_)
  obtain ⟨rfl, rfl⟩ := p_1
  refine g_perm (ws1 := [(x0, oo 6 [.ref a1, .ref h0, .ref a3, .ref a4, .ref a5, .int (iI lo)]), (a5, aI E 6 ru), (h0, oo 0 [.int (iI cn), .ref b1, .ref b2, .ref b3, .ref b4, .ref b5, .ref b6, .ref b7, .ref b8]), (b1, aI E 200 bo), (b4, aI E 30 un), (b5, aZ E 30 cl)]) [0, 1, 2, 3, 4, 5] rfl (by decide) rfl ?_
  refine g_if_eq_b (tgt := 18) dX6_pack_8 rfl (fun c_2 => ?_) (fun c_2 => ?_)
  · refine g_iload_n 2 dX6_pack_11 rfl rfl ?_
    refine g_callS_i (n := 1) (As := [.int (iI box)]) (wr := [(x0, oo 6 [.ref a1, .ref h0, .ref a3, .ref a4, .ref a5, .int (iI lo)]), (a5, aI E 6 ru), (h0, oo 0 [.int (iI cn), .ref b1, .ref b2, .ref b3, .ref b4, .ref b5, .ref b6, .ref b7, .ref b8]), (b1, aI E 200 bo), (b4, aI E 30 un), (b5, aZ E 30 cl)]) [] (c_X6_isBox E box (by omega)) [] [0, 1, 2, 3, 4, 5] gX6_pack_X6_isBox rfl ⟨rfl, by decide +kernel⟩ ⟨by decide, by decide⟩ rfl rfl rfl rfl rfl (by decide) rfl (by decide) (by decide) (fun _ h => absurd h List.not_mem_nil) dX6_pack_12 rfl (Nat.le_of_ble_eq_true rfl) ⟨by decide, by decide⟩ (fun r u p_3 => ?_)
    obtain ⟨rfl, rfl⟩ := p_3
    refine g_perm (ws1 := [(x0, oo 6 [.ref a1, .ref h0, .ref a3, .ref a4, .ref a5, .int (iI lo)]), (a5, aI E 6 ru), (h0, oo 0 [.int (iI cn), .ref b1, .ref b2, .ref b3, .ref b4, .ref b5, .ref b6, .ref b7, .ref b8]), (b1, aI E 200 bo), (b4, aI E 30 un), (b5, aZ E 30 cl)]) [0, 1, 2, 3, 4, 5] rfl (by decide) rfl ?_
    refine g_if_ne_b (tgt := 20) dX6_pack_15 rfl (fun c_4 => ?_) (fun c_4 => ?_)
    · refine g_aload_n 0 dX6_pack_20 rfl rfl ?_
      refine g_get (C := RX6) (T := TX6) (N := 6) 0 1 (fun _ h => List.mem_cons_of_mem _ (List.mem_append_left _ (List.mem_append_right _ h))) (List.mem_of_getElem? (i := 1) rfl) rfl rfl (by decide) rfl rfl dX6_pack_21 ?_
      refine g_iload_n 1 dX6_pack_24 rfl rfl ?_
      refine g_iload_n 2 dX6_pack_25 rfl rfl ?_
      refine g_aload_n 0 dX6_pack_26 rfl rfl ?_
      refine g_get (C := RX6) (T := TX6) (N := 6) 0 4 (fun _ h => List.mem_cons_of_mem _ (List.mem_append_left _ (List.mem_append_right _ h))) (List.mem_of_getElem? (i := 2) rfl) rfl rfl (by decide) rfl rfl dX6_pack_27 ?_
      refine g_iconst dX6_pack_30 ?_
      refine g_iald 1 dX6_pack_31 rfl (by decide) (by omega) (by omega) ?_
      refine g_callV_i (n := 3) (As := [.int (iI code), .int (iI box), .int (iI (ru 0))]) (wr := [(x0, oo 6 [.ref a1, .ref h0, .ref a3, .ref a4, .ref a5, .int (iI lo)]), (a5, aI E 6 ru)]) (C := RX0) [] (c_X0_packInto E h0 b1 b2 b3 b4 b5 b6 b7 b8 cn bo un cl code box (ru 0) (by omega) (by omega) (by omega) (by omega) (by omega) (by omega) (by omega) (by omega)) [2, 3, 4, 5] [0, 1] 0 rfl rfl gX6_pack_X0_packInto rfl ⟨rfl, by decide +kernel⟩ ⟨by decide, by decide⟩ rfl rfl rfl rfl rfl (by decide) rfl (by decide) (by decide) (fun _ h => absurd h List.not_mem_nil) dX6_pack_32 rfl (Nat.le_of_ble_eq_true rfl) ⟨by decide, by decide⟩ (fun r u p_5 => ?_)
      obtain ⟨x_6, bo_7, un_8, fq, rfl, rfl⟩ := p_5
      exact g_iret hRet dX6_pack_35 rfl ⟨x_6, bo_7, un_8, (by unfold sp_pack; rw [if_neg (by omega)]; exact fq), rfl, rfl⟩
    · refine g_iconst dX6_pack_18 ?_
      exact g_iret hRet dX6_pack_19 rfl ⟨(-1), bo, un, (by unfold sp_pack; rw [if_pos (by omega)]; exact ⟨rfl, rfl, rfl⟩), rfl, rfl⟩
  · refine g_iconst dX6_pack_18 ?_
    exact g_iret hRet dX6_pack_19 rfl ⟨(-1), bo, un, (by unfold sp_pack; rw [if_pos (by omega)]; exact ⟨rfl, rfl, rfl⟩), rfl, rfl⟩

set_option maxHeartbeats 4000000 in
set_option maxRecDepth 100000 in
theorem c_X6_close (E : Ev) (x0 : Nat) (a1 : Nat) (a3 : Nat) (a4 : Nat) (a5 : Nat) (lo : Int) (ru : Int → Int) (h0 : Nat) (b1 : Nat) (b2 : Nat) (b3 : Nat) (b4 : Nat) (b5 : Nat) (b6 : Nat) (b7 : Nat) (b8 : Nat) (cn : Int) (un : Int → Int) (cl : Int → Int) (box : Int) (hcn : 0 ≤ cn ∧ cn ≤ 200) (hru : (1 ≤ ru 0 ∧ ru 0 ≤ 12) ∧ (1 ≤ ru 1 ∧ ru 1 ≤ 20) ∧ (0 ≤ ru 2 ∧ ru 2 ≤ 10000) ∧ (0 ≤ ru 3 ∧ ru 3 ≤ 10000) ∧ (0 ≤ ru 4 ∧ ru 4 ≤ 1000) ∧ (0 ≤ ru 5 ∧ ru 5 ≤ 500)) (hun : ∀ k, 0 ≤ un k ∧ un k ≤ 200) (hcl : ∀ k, 0 ≤ cl k ∧ cl k ≤ 1) (h_box : -2147483648 ≤ box ∧ box ≤ 2147483647) : MI yX6_close wsX6_close ({ frames := 2, cells := 0, slots := 0, locals := 42 } : Room) E [] 0 0 [.ref x0, .int (iI box)] [(x0, oo 6 [.ref a1, .ref h0, .ref a3, .ref a4, .ref a5, .int (iI lo)]), (a5, aI E 6 ru), (h0, oo 0 [.int (iI cn), .ref b1, .ref b2, .ref b3, .ref b4, .ref b5, .ref b6, .ref b7, .ref b8]), (b4, aI E 30 un), (b5, aZ E 30 cl)] (fun r u => ∃ (x : Int), ∃ (cl' : Int → Int), sp_close cl un ru box x cl' ∧ r = iI x ∧ u = [(x0, oo 6 [.ref a1, .ref h0, .ref a3, .ref a4, .ref a5, .int (iI lo)]), (a5, aI E 6 ru), (h0, oo 0 [.int (iI cn), .ref b1, .ref b2, .ref b3, .ref b4, .ref b5, .ref b6, .ref b7, .ref b8]), (b4, aI E 30 un), (b5, aZ E 30 cl')]) := by
  refine MI.of (cc := cX6_close) (maxL := 2) (own := RX6) (by decide) rfl rfl rfl (Nat.le_of_ble_eq_true rfl) [(0, .ref x0), (1, .int (iI box))] rfl ?_
  intro X hin2 hRet
  refine g_iload_n 1 dX6_close_0 rfl rfl ?_
  refine g_callS_i (n := 1) (As := [.int (iI box)]) (wr := [(x0, oo 6 [.ref a1, .ref h0, .ref a3, .ref a4, .ref a5, .int (iI lo)]), (a5, aI E 6 ru), (h0, oo 0 [.int (iI cn), .ref b1, .ref b2, .ref b3, .ref b4, .ref b5, .ref b6, .ref b7, .ref b8]), (b4, aI E 30 un), (b5, aZ E 30 cl)]) [] (c_X6_isBox E box (by omega)) [] [0, 1, 2, 3, 4] gX6_close_X6_isBox rfl ⟨rfl, by decide +kernel⟩ ⟨by decide, by decide⟩ rfl rfl rfl rfl rfl (by decide) rfl (by decide) (by decide) (fun _ h => absurd h List.not_mem_nil) dX6_close_1 rfl (Nat.le_of_ble_eq_true rfl) ⟨by decide, by decide⟩ (fun r u p_1 => ?_)
  obtain ⟨rfl, rfl⟩ := p_1
  refine g_perm (ws1 := [(x0, oo 6 [.ref a1, .ref h0, .ref a3, .ref a4, .ref a5, .int (iI lo)]), (a5, aI E 6 ru), (h0, oo 0 [.int (iI cn), .ref b1, .ref b2, .ref b3, .ref b4, .ref b5, .ref b6, .ref b7, .ref b8]), (b4, aI E 30 un), (b5, aZ E 30 cl)]) [0, 1, 2, 3, 4] rfl (by decide) rfl ?_
  refine g_if_ne_b (tgt := 9) dX6_close_4 rfl (fun c_2 => ?_) (fun c_2 => ?_)
  · refine g_aload_n 0 dX6_close_9 rfl rfl ?_
    refine g_get (C := RX6) (T := TX6) (N := 6) 0 1 (fun _ h => List.mem_cons_of_mem _ (List.mem_append_left _ (List.mem_append_right _ h))) (List.mem_of_getElem? (i := 1) rfl) rfl rfl (by decide) rfl rfl dX6_close_10 ?_
    refine g_iload_n 1 dX6_close_13 rfl rfl ?_
    refine g_aload_n 0 dX6_close_14 rfl rfl ?_
    refine g_get (C := RX6) (T := TX6) (N := 6) 0 4 (fun _ h => List.mem_cons_of_mem _ (List.mem_append_left _ (List.mem_append_right _ h))) (List.mem_of_getElem? (i := 2) rfl) rfl rfl (by decide) rfl rfl dX6_close_15 ?_
    refine g_iconst dX6_close_18 ?_
    refine g_iald 1 dX6_close_19 rfl (by decide) (by omega) (by omega) ?_
    refine g_callV_i (n := 2) (As := [.int (iI box), .int (iI (ru 0))]) (wr := [(x0, oo 6 [.ref a1, .ref h0, .ref a3, .ref a4, .ref a5, .int (iI lo)]), (a5, aI E 6 ru)]) (C := RX0) [] (c_X0_closeBox E h0 b1 b2 b3 b4 b5 b6 b7 b8 cn un cl box (ru 0) (by omega) (by omega) (by omega) (by omega) (by omega) (by omega)) [2, 3, 4] [0, 1] 0 rfl rfl gX6_close_X0_closeBox rfl ⟨rfl, by decide +kernel⟩ ⟨by decide, by decide⟩ rfl rfl rfl rfl rfl (by decide) rfl (by decide) (by decide) (fun _ h => absurd h List.not_mem_nil) dX6_close_20 rfl (Nat.le_of_ble_eq_true rfl) ⟨by decide, by decide⟩ (fun r u p_3 => ?_)
    obtain ⟨x_4, cl_5, fq, rfl, rfl⟩ := p_3
    exact g_iret hRet dX6_close_23 rfl ⟨x_4, cl_5, (by unfold sp_close; rw [if_neg (by omega)]; exact fq), rfl, rfl⟩
  · refine g_iconst dX6_close_7 ?_
    exact g_iret hRet dX6_close_8 rfl ⟨(-1), cl, (by unfold sp_close; rw [if_pos (by omega)]; exact ⟨rfl, rfl⟩), rfl, rfl⟩

set_option maxHeartbeats 4000000 in
set_option maxRecDepth 100000 in
theorem c_X6_weigh (E : Ev) (x0 : Nat) (a1 : Nat) (a3 : Nat) (a4 : Nat) (a5 : Nat) (lo : Int) (ru : Int → Int) (h0 : Nat) (b1 : Nat) (b2 : Nat) (b3 : Nat) (b4 : Nat) (b5 : Nat) (b6 : Nat) (b7 : Nat) (b8 : Nat) (cn : Int) (bo : Int → Int) (un : Int → Int) (cl : Int → Int) (box : Int) (w : Int) (hcn : 0 ≤ cn ∧ cn ≤ 200) (hru : (1 ≤ ru 0 ∧ ru 0 ≤ 12) ∧ (1 ≤ ru 1 ∧ ru 1 ≤ 20) ∧ (0 ≤ ru 2 ∧ ru 2 ≤ 10000) ∧ (0 ≤ ru 3 ∧ ru 3 ≤ 10000) ∧ (0 ≤ ru 4 ∧ ru 4 ≤ 1000) ∧ (0 ≤ ru 5 ∧ ru 5 ≤ 500)) (hbo : ∀ k, -4 ≤ bo k ∧ bo k ≤ 29) (hun : ∀ k, 0 ≤ un k ∧ un k ≤ 200) (hcl : ∀ k, 0 ≤ cl k ∧ cl k ≤ 1) (h_box : -2147483648 ≤ box ∧ box ≤ 2147483647) (h_w : -2147483648 ≤ w ∧ w ≤ 2147483647) : MI yX6_weigh wsX6_weigh ({ frames := 3, cells := 0, slots := 0, locals := 71 } : Room) E [] 0 0 [.ref x0, .int (iI box), .int (iI w)] [(x0, oo 6 [.ref a1, .ref h0, .ref a3, .ref a4, .ref a5, .int (iI lo)]), (a5, aI E 6 ru), (h0, oo 0 [.int (iI cn), .ref b1, .ref b2, .ref b3, .ref b4, .ref b5, .ref b6, .ref b7, .ref b8]), (b1, aI E 200 bo), (b4, aI E 30 un), (b5, aZ E 30 cl)] (fun r u => ∃ (x : Int), ∃ (bo' : Int → Int), ∃ (un' : Int → Int), ∃ (cl' : Int → Int), sp_weigh cn bo cl un ru box w x bo' un' cl' ∧ r = iI x ∧ u = [(x0, oo 6 [.ref a1, .ref h0, .ref a3, .ref a4, .ref a5, .int (iI lo)]), (a5, aI E 6 ru), (h0, oo 0 [.int (iI cn), .ref b1, .ref b2, .ref b3, .ref b4, .ref b5, .ref b6, .ref b7, .ref b8]), (b1, aI E 200 bo'), (b4, aI E 30 un'), (b5, aZ E 30 cl')]) := by
  refine MI.of (cc := cX6_weigh) (maxL := 4) (own := RX6) (by decide) rfl rfl rfl (Nat.le_of_ble_eq_true rfl) [(0, .ref x0), (1, .int (iI box)), (2, .int (iI w))] rfl ?_
  intro X hin2 hRet
  refine g_iload_n 1 dX6_weigh_0 rfl rfl ?_
  refine g_callS_i (n := 1) (As := [.int (iI box)]) (wr := [(x0, oo 6 [.ref a1, .ref h0, .ref a3, .ref a4, .ref a5, .int (iI lo)]), (a5, aI E 6 ru), (h0, oo 0 [.int (iI cn), .ref b1, .ref b2, .ref b3, .ref b4, .ref b5, .ref b6, .ref b7, .ref b8]), (b1, aI E 200 bo), (b4, aI E 30 un), (b5, aZ E 30 cl)]) [] (c_X6_isBox E box (by omega)) [] [0, 1, 2, 3, 4, 5] gX6_weigh_X6_isBox rfl ⟨rfl, by decide +kernel⟩ ⟨by decide, by decide⟩ rfl rfl rfl rfl rfl (by decide) rfl (by decide) (by decide) (fun _ h => absurd h List.not_mem_nil) dX6_weigh_1 rfl (Nat.le_of_ble_eq_true rfl) ⟨by decide, by decide⟩ (fun r u p_1 => ?_)
  obtain ⟨rfl, rfl⟩ := p_1
  refine g_perm (ws1 := [(x0, oo 6 [.ref a1, .ref h0, .ref a3, .ref a4, .ref a5, .int (iI lo)]), (a5, aI E 6 ru), (h0, oo 0 [.int (iI cn), .ref b1, .ref b2, .ref b3, .ref b4, .ref b5, .ref b6, .ref b7, .ref b8]), (b1, aI E 200 bo), (b4, aI E 30 un), (b5, aZ E 30 cl)]) [0, 1, 2, 3, 4, 5] rfl (by decide) rfl ?_
  refine g_if_eq_b (tgt := 17) dX6_weigh_4 rfl (fun c_2 => ?_) (fun c_2 => ?_)
  · refine g_iload_n 2 dX6_weigh_7 rfl rfl ?_
    refine g_iconst dX6_weigh_8 ?_
    refine g_ldc (index := 170) 1000000 (List.mem_of_getElem? (i := 1) rfl) dX6_weigh_9 rfl ?_
    refine g_callS_i (n := 3) (As := [.int (iI w), .int (iI 0), .int (iI 1000000)]) (wr := [(x0, oo 6 [.ref a1, .ref h0, .ref a3, .ref a4, .ref a5, .int (iI lo)]), (a5, aI E 6 ru), (h0, oo 0 [.int (iI cn), .ref b1, .ref b2, .ref b3, .ref b4, .ref b5, .ref b6, .ref b7, .ref b8]), (b1, aI E 200 bo), (b4, aI E 30 un), (b5, aZ E 30 cl)]) [] (c_X6_within E w 0 1000000 (by omega) (by omega) (by omega)) [] [0, 1, 2, 3, 4, 5] gX6_weigh_X6_within rfl ⟨rfl, by decide +kernel⟩ ⟨by decide, by decide⟩ rfl rfl rfl rfl rfl (by decide) rfl (by decide) (by decide) (fun _ h => absurd h List.not_mem_nil) dX6_weigh_11 rfl (Nat.le_of_ble_eq_true rfl) ⟨by decide, by decide⟩ (fun r u p_3 => ?_)
    obtain ⟨rfl, rfl⟩ := p_3
    refine g_perm (ws1 := [(x0, oo 6 [.ref a1, .ref h0, .ref a3, .ref a4, .ref a5, .int (iI lo)]), (a5, aI E 6 ru), (h0, oo 0 [.int (iI cn), .ref b1, .ref b2, .ref b3, .ref b4, .ref b5, .ref b6, .ref b7, .ref b8]), (b1, aI E 200 bo), (b4, aI E 30 un), (b5, aZ E 30 cl)]) [0, 1, 2, 3, 4, 5] rfl (by decide) rfl ?_
    refine g_if_ne_b (tgt := 19) dX6_weigh_14 rfl (fun c_4 => ?_) (fun c_4 => ?_)
    · have hm := mul_b (a := ru 0) (b := ru 2) (by omega) (by omega) (by omega) (by omega)
      refine g_aload_n 0 dX6_weigh_19 rfl rfl ?_
      refine g_get (C := RX6) (T := TX6) (N := 6) 0 4 (fun _ h => List.mem_cons_of_mem _ (List.mem_append_left _ (List.mem_append_right _ h))) (List.mem_of_getElem? (i := 2) rfl) rfl rfl (by decide) rfl rfl dX6_weigh_20 ?_
      refine g_iconst dX6_weigh_23 ?_
      refine g_iald 1 dX6_weigh_24 rfl (by decide) (by omega) (by omega) ?_
      refine g_aload_n 0 dX6_weigh_25 rfl rfl ?_
      refine g_get (C := RX6) (T := TX6) (N := 6) 0 4 (fun _ h => List.mem_cons_of_mem _ (List.mem_append_left _ (List.mem_append_right _ h))) (List.mem_of_getElem? (i := 2) rfl) rfl rfl (by decide) rfl rfl dX6_weigh_26 ?_
      refine g_iconst dX6_weigh_29 ?_
      refine g_iald 1 dX6_weigh_30 rfl (by decide) (by omega) (by omega) ?_
      refine g_imul dX6_weigh_31 ?_
      refine g_aload_n 0 dX6_weigh_32 rfl rfl ?_
      refine g_get (C := RX6) (T := TX6) (N := 6) 0 4 (fun _ h => List.mem_cons_of_mem _ (List.mem_append_left _ (List.mem_append_right _ h))) (List.mem_of_getElem? (i := 2) rfl) rfl rfl (by decide) rfl rfl dX6_weigh_33 ?_
      refine g_iconst dX6_weigh_36 ?_
      refine g_iald 1 dX6_weigh_37 rfl (by decide) (by omega) (by omega) ?_
      refine g_iadd dX6_weigh_38 ?_
      refine g_istore_n (lv1 := [(3, .int (iI (((ru 0) * (ru 2)) + (ru 3)))), (0, .ref x0), (1, .int (iI box)), (2, .int (iI w))]) dX6_weigh_39 rfl (by decide) rfl ?_
      refine g_iload_n 3 dX6_weigh_40 rfl rfl ?_
      refine g_iload_n 0 dX6_weigh_41 rfl rfl ?_
      refine g_isub dX6_weigh_42 ?_
      refine g_mabs (by unfold R32; omega) (List.mem_of_getElem? (i := 3) rfl) (List.mem_of_getElem? (i := 4) rfl) (List.mem_of_getElem? (i := 5) rfl) (List.mem_of_getElem? (i := 6) rfl) (by decide) (Nat.le_of_ble_eq_true rfl) (by decide) dX6_weigh_43 ?_
      refine g_aload_n 1 dX6_weigh_46 rfl rfl ?_
      refine g_get (C := RX6) (T := TX6) (N := 6) 0 4 (fun _ h => List.mem_cons_of_mem _ (List.mem_append_left _ (List.mem_append_right _ h))) (List.mem_of_getElem? (i := 2) rfl) rfl rfl (by decide) rfl rfl dX6_weigh_47 ?_
      refine g_iconst dX6_weigh_50 ?_
      refine g_iald 1 dX6_weigh_51 rfl (by decide) (by omega) (by omega) ?_
      refine g_icmp_le (tgt := 58) (by unfold R32; split <;> omega) (by unfold R32; omega) dX6_weigh_52 rfl (fun hab => ?_) (fun hab => ?_)
      · refine g_aload_n 1 dX6_weigh_58 rfl rfl ?_
        refine g_get (C := RX6) (T := TX6) (N := 6) 0 1 (fun _ h => List.mem_cons_of_mem _ (List.mem_append_left _ (List.mem_append_right _ h))) (List.mem_of_getElem? (i := 7) rfl) rfl rfl (by decide) rfl rfl dX6_weigh_59 ?_
        refine g_iload_n 2 dX6_weigh_62 rfl rfl ?_
        refine g_aload_n 1 dX6_weigh_63 rfl rfl ?_
        refine g_get (C := RX6) (T := TX6) (N := 6) 0 4 (fun _ h => List.mem_cons_of_mem _ (List.mem_append_left _ (List.mem_append_right _ h))) (List.mem_of_getElem? (i := 2) rfl) rfl rfl (by decide) rfl rfl dX6_weigh_64 ?_
        refine g_iconst dX6_weigh_67 ?_
        refine g_iald 1 dX6_weigh_68 rfl (by decide) (by omega) (by omega) ?_
        refine g_callV_i (n := 2) (As := [.int (iI box), .int (iI (ru 0))]) (wr := [(x0, oo 6 [.ref a1, .ref h0, .ref a3, .ref a4, .ref a5, .int (iI lo)]), (a5, aI E 6 ru)]) (C := RX0) [] (c_X0_closeWithLost E h0 b1 b2 b3 b4 b5 b6 b7 b8 cn bo un cl box (ru 0) (by omega) (by omega) (by omega) (by omega) (by omega) (by omega) (by omega) (by omega)) [2, 3, 4, 5] [0, 1] 0 rfl rfl gX6_weigh_X0_closeWithLost rfl ⟨rfl, by decide +kernel⟩ ⟨by decide, by decide⟩ rfl rfl rfl rfl rfl (by decide) rfl (by decide) (by decide) (fun _ h => absurd h List.not_mem_nil) dX6_weigh_69 rfl (Nat.le_of_ble_eq_true rfl) ⟨by decide, by decide⟩ (fun r u p_5 => ?_)
        obtain ⟨x_6, bo_7, un_8, cl_9, fq, rfl, rfl⟩ := p_5
        exact g_iret hRet dX6_weigh_72 rfl ⟨x_6, bo_7, un_8, cl_9, (by unfold sp_weigh; rw [if_neg (by omega), if_neg (by split at hab <;> omega)]; exact fq), rfl, rfl⟩
      · refine g_bipush dX6_weigh_55 rfl ?_
        exact g_iret hRet dX6_weigh_57 rfl ⟨(-2), bo, un, cl, (by unfold sp_weigh; rw [if_neg (by omega), if_pos (by split at hab <;> omega)]; exact ⟨rfl, rfl, rfl, rfl⟩), rfl, rfl⟩
    · refine g_iconst dX6_weigh_17 ?_
      exact g_iret hRet dX6_weigh_18 rfl ⟨(-1), bo, un, cl, (by unfold sp_weigh; rw [if_pos (by omega)]; exact ⟨rfl, rfl, rfl, rfl⟩), rfl, rfl⟩
  · refine g_iconst dX6_weigh_17 ?_
    exact g_iret hRet dX6_weigh_18 rfl ⟨(-1), bo, un, cl, (by unfold sp_weigh; rw [if_pos (by omega)]; exact ⟨rfl, rfl, rfl, rfl⟩), rfl, rfl⟩

set_option maxHeartbeats 4000000 in
set_option maxRecDepth 100000 in
theorem c_X6_stack (E : Ev) (x0 : Nat) (a1 : Nat) (a3 : Nat) (a4 : Nat) (a5 : Nat) (lo : Int) (ru : Int → Int) (h0 : Nat) (b1 : Nat) (b2 : Nat) (b3 : Nat) (b4 : Nat) (b5 : Nat) (b6 : Nat) (b7 : Nat) (b8 : Nat) (cn : Int) (cl : Int → Int) (pl : Int → Int) (on : Int → Int) (se : Int → Int) (box : Int) (pal : Int) (hcn : 0 ≤ cn ∧ cn ≤ 200) (hru : (1 ≤ ru 0 ∧ ru 0 ≤ 12) ∧ (1 ≤ ru 1 ∧ ru 1 ≤ 20) ∧ (0 ≤ ru 2 ∧ ru 2 ≤ 10000) ∧ (0 ≤ ru 3 ∧ ru 3 ≤ 10000) ∧ (0 ≤ ru 4 ∧ ru 4 ≤ 1000) ∧ (0 ≤ ru 5 ∧ ru 5 ≤ 500)) (hcl : ∀ k, 0 ≤ cl k ∧ cl k ≤ 1) (hpl : ∀ k, -4 ≤ pl k ∧ pl k ≤ 5) (hon : ∀ k, 0 ≤ on k ∧ on k ≤ 30) (hse : ∀ k, 0 ≤ se k ∧ se k ≤ 1) (h_box : -2147483648 ≤ box ∧ box ≤ 2147483647) (h_pal : -2147483648 ≤ pal ∧ pal ≤ 2147483647) : MI yX6_stack wsX6_stack ({ frames := 2, cells := 0, slots := 0, locals := 42 } : Room) E [] 0 0 [.ref x0, .int (iI box), .int (iI pal)] [(x0, oo 6 [.ref a1, .ref h0, .ref a3, .ref a4, .ref a5, .int (iI lo)]), (a5, aI E 6 ru), (h0, oo 0 [.int (iI cn), .ref b1, .ref b2, .ref b3, .ref b4, .ref b5, .ref b6, .ref b7, .ref b8]), (b5, aZ E 30 cl), (b6, aI E 30 pl), (b7, aI E 6 on), (b8, aZ E 6 se)] (fun r u => ∃ (x : Int), ∃ (pl' : Int → Int), ∃ (on' : Int → Int), sp_stack cl pl se on ru box pal x pl' on' ∧ r = iI x ∧ u = [(x0, oo 6 [.ref a1, .ref h0, .ref a3, .ref a4, .ref a5, .int (iI lo)]), (a5, aI E 6 ru), (h0, oo 0 [.int (iI cn), .ref b1, .ref b2, .ref b3, .ref b4, .ref b5, .ref b6, .ref b7, .ref b8]), (b5, aZ E 30 cl), (b6, aI E 30 pl'), (b7, aI E 6 on'), (b8, aZ E 6 se)]) := by
  refine MI.of (cc := cX6_stack) (maxL := 3) (own := RX6) (by decide) rfl rfl rfl (Nat.le_of_ble_eq_true rfl) [(0, .ref x0), (1, .int (iI box)), (2, .int (iI pal))] rfl ?_
  intro X hin2 hRet
  refine g_iload_n 1 dX6_stack_0 rfl rfl ?_
  refine g_callS_i (n := 1) (As := [.int (iI box)]) (wr := [(x0, oo 6 [.ref a1, .ref h0, .ref a3, .ref a4, .ref a5, .int (iI lo)]), (a5, aI E 6 ru), (h0, oo 0 [.int (iI cn), .ref b1, .ref b2, .ref b3, .ref b4, .ref b5, .ref b6, .ref b7, .ref b8]), (b5, aZ E 30 cl), (b6, aI E 30 pl), (b7, aI E 6 on), (b8, aZ E 6 se)]) [] (c_X6_isBox E box (by omega)) [] [0, 1, 2, 3, 4, 5, 6] gX6_stack_X6_isBox rfl ⟨rfl, by decide +kernel⟩ ⟨by decide, by decide⟩ rfl rfl rfl rfl rfl (by decide) rfl (by decide) (by decide) (fun _ h => absurd h List.not_mem_nil) dX6_stack_1 rfl (Nat.le_of_ble_eq_true rfl) ⟨by decide, by decide⟩ (fun r u p_1 => ?_)
  obtain ⟨rfl, rfl⟩ := p_1
  refine g_perm (ws1 := [(x0, oo 6 [.ref a1, .ref h0, .ref a3, .ref a4, .ref a5, .int (iI lo)]), (a5, aI E 6 ru), (h0, oo 0 [.int (iI cn), .ref b1, .ref b2, .ref b3, .ref b4, .ref b5, .ref b6, .ref b7, .ref b8]), (b5, aZ E 30 cl), (b6, aI E 30 pl), (b7, aI E 6 on), (b8, aZ E 6 se)]) [0, 1, 2, 3, 4, 5, 6] rfl (by decide) rfl ?_
  refine g_if_eq_b (tgt := 14) dX6_stack_4 rfl (fun c_2 => ?_) (fun c_2 => ?_)
  · refine g_iload_n 2 dX6_stack_7 rfl rfl ?_
    refine g_callS_i (n := 1) (As := [.int (iI pal)]) (wr := [(x0, oo 6 [.ref a1, .ref h0, .ref a3, .ref a4, .ref a5, .int (iI lo)]), (a5, aI E 6 ru), (h0, oo 0 [.int (iI cn), .ref b1, .ref b2, .ref b3, .ref b4, .ref b5, .ref b6, .ref b7, .ref b8]), (b5, aZ E 30 cl), (b6, aI E 30 pl), (b7, aI E 6 on), (b8, aZ E 6 se)]) [] (c_X6_isPallet E pal (by omega)) [] [0, 1, 2, 3, 4, 5, 6] gX6_stack_X6_isPallet rfl ⟨rfl, by decide +kernel⟩ ⟨by decide, by decide⟩ rfl rfl rfl rfl rfl (by decide) rfl (by decide) (by decide) (fun _ h => absurd h List.not_mem_nil) dX6_stack_8 rfl (Nat.le_of_ble_eq_true rfl) ⟨by decide, by decide⟩ (fun r u p_3 => ?_)
    obtain ⟨rfl, rfl⟩ := p_3
    refine g_perm (ws1 := [(x0, oo 6 [.ref a1, .ref h0, .ref a3, .ref a4, .ref a5, .int (iI lo)]), (a5, aI E 6 ru), (h0, oo 0 [.int (iI cn), .ref b1, .ref b2, .ref b3, .ref b4, .ref b5, .ref b6, .ref b7, .ref b8]), (b5, aZ E 30 cl), (b6, aI E 30 pl), (b7, aI E 6 on), (b8, aZ E 6 se)]) [0, 1, 2, 3, 4, 5, 6] rfl (by decide) rfl ?_
    refine g_if_ne_b (tgt := 16) dX6_stack_11 rfl (fun c_4 => ?_) (fun c_4 => ?_)
    · refine g_aload_n 0 dX6_stack_16 rfl rfl ?_
      refine g_get (C := RX6) (T := TX6) (N := 6) 0 1 (fun _ h => List.mem_cons_of_mem _ (List.mem_append_left _ (List.mem_append_right _ h))) (List.mem_of_getElem? (i := 1) rfl) rfl rfl (by decide) rfl rfl dX6_stack_17 ?_
      refine g_iload_n 1 dX6_stack_20 rfl rfl ?_
      refine g_iload_n 2 dX6_stack_21 rfl rfl ?_
      refine g_aload_n 0 dX6_stack_22 rfl rfl ?_
      refine g_get (C := RX6) (T := TX6) (N := 6) 0 4 (fun _ h => List.mem_cons_of_mem _ (List.mem_append_left _ (List.mem_append_right _ h))) (List.mem_of_getElem? (i := 2) rfl) rfl rfl (by decide) rfl rfl dX6_stack_23 ?_
      refine g_iconst dX6_stack_26 ?_
      refine g_iald 1 dX6_stack_27 rfl (by decide) (by omega) (by omega) ?_
      refine g_callV_i (n := 3) (As := [.int (iI box), .int (iI pal), .int (iI (ru 1))]) (wr := [(x0, oo 6 [.ref a1, .ref h0, .ref a3, .ref a4, .ref a5, .int (iI lo)]), (a5, aI E 6 ru)]) (C := RX0) [] (c_X0_stackOn E h0 b1 b2 b3 b4 b5 b6 b7 b8 cn cl pl on se box pal (ru 1) (by omega) (by omega) (by omega) (by omega) (by omega) (by omega) (by omega) (by omega) (by omega) (by omega)) [2, 3, 4, 5, 6] [0, 1] 0 rfl rfl gX6_stack_X0_stackOn rfl ⟨rfl, by decide +kernel⟩ ⟨by decide, by decide⟩ rfl rfl rfl rfl rfl (by decide) rfl (by decide) (by decide) (fun _ h => absurd h List.not_mem_nil) dX6_stack_28 rfl (Nat.le_of_ble_eq_true rfl) ⟨by decide, by decide⟩ (fun r u p_5 => ?_)
      obtain ⟨x_6, pl_7, on_8, fq, rfl, rfl⟩ := p_5
      exact g_iret hRet dX6_stack_31 rfl ⟨x_6, pl_7, on_8, (by unfold sp_stack; rw [if_neg (by omega)]; exact fq), rfl, rfl⟩
    · refine g_iconst dX6_stack_14 ?_
      exact g_iret hRet dX6_stack_15 rfl ⟨(-1), pl, on, (by unfold sp_stack; rw [if_pos (by omega)]; exact ⟨rfl, rfl, rfl⟩), rfl, rfl⟩
  · refine g_iconst dX6_stack_14 ?_
    exact g_iret hRet dX6_stack_15 rfl ⟨(-1), pl, on, (by unfold sp_stack; rw [if_pos (by omega)]; exact ⟨rfl, rfl, rfl⟩), rfl, rfl⟩

set_option maxHeartbeats 4000000 in
set_option maxRecDepth 100000 in
theorem c_X6_seal (E : Ev) (x0 : Nat) (a1 : Nat) (a3 : Nat) (a4 : Nat) (a5 : Nat) (lo : Int) (ru : Int → Int) (h0 : Nat) (b1 : Nat) (b2 : Nat) (b3 : Nat) (b4 : Nat) (b5 : Nat) (b6 : Nat) (b7 : Nat) (b8 : Nat) (cn : Int) (on : Int → Int) (se : Int → Int) (pal : Int) (hcn : 0 ≤ cn ∧ cn ≤ 200) (hru : (1 ≤ ru 0 ∧ ru 0 ≤ 12) ∧ (1 ≤ ru 1 ∧ ru 1 ≤ 20) ∧ (0 ≤ ru 2 ∧ ru 2 ≤ 10000) ∧ (0 ≤ ru 3 ∧ ru 3 ≤ 10000) ∧ (0 ≤ ru 4 ∧ ru 4 ≤ 1000) ∧ (0 ≤ ru 5 ∧ ru 5 ≤ 500)) (hon : ∀ k, 0 ≤ on k ∧ on k ≤ 30) (hse : ∀ k, 0 ≤ se k ∧ se k ≤ 1) (h_pal : -2147483648 ≤ pal ∧ pal ≤ 2147483647) : MI yX6_seal wsX6_seal ({ frames := 2, cells := 0, slots := 0, locals := 42 } : Room) E [] 0 0 [.ref x0, .int (iI pal)] [(x0, oo 6 [.ref a1, .ref h0, .ref a3, .ref a4, .ref a5, .int (iI lo)]), (a5, aI E 6 ru), (h0, oo 0 [.int (iI cn), .ref b1, .ref b2, .ref b3, .ref b4, .ref b5, .ref b6, .ref b7, .ref b8]), (b7, aI E 6 on), (b8, aZ E 6 se)] (fun r u => ∃ (x : Int), ∃ (se' : Int → Int), sp_seal on se pal x se' ∧ r = iI x ∧ u = [(x0, oo 6 [.ref a1, .ref h0, .ref a3, .ref a4, .ref a5, .int (iI lo)]), (a5, aI E 6 ru), (h0, oo 0 [.int (iI cn), .ref b1, .ref b2, .ref b3, .ref b4, .ref b5, .ref b6, .ref b7, .ref b8]), (b7, aI E 6 on), (b8, aZ E 6 se')]) := by
  refine MI.of (cc := cX6_seal) (maxL := 2) (own := RX6) (by decide) rfl rfl rfl (Nat.le_of_ble_eq_true rfl) [(0, .ref x0), (1, .int (iI pal))] rfl ?_
  intro X hin2 hRet
  refine g_iload_n 1 dX6_seal_0 rfl rfl ?_
  refine g_callS_i (n := 1) (As := [.int (iI pal)]) (wr := [(x0, oo 6 [.ref a1, .ref h0, .ref a3, .ref a4, .ref a5, .int (iI lo)]), (a5, aI E 6 ru), (h0, oo 0 [.int (iI cn), .ref b1, .ref b2, .ref b3, .ref b4, .ref b5, .ref b6, .ref b7, .ref b8]), (b7, aI E 6 on), (b8, aZ E 6 se)]) [] (c_X6_isPallet E pal (by omega)) [] [0, 1, 2, 3, 4] gX6_seal_X6_isPallet rfl ⟨rfl, by decide +kernel⟩ ⟨by decide, by decide⟩ rfl rfl rfl rfl rfl (by decide) rfl (by decide) (by decide) (fun _ h => absurd h List.not_mem_nil) dX6_seal_1 rfl (Nat.le_of_ble_eq_true rfl) ⟨by decide, by decide⟩ (fun r u p_1 => ?_)
  obtain ⟨rfl, rfl⟩ := p_1
  refine g_perm (ws1 := [(x0, oo 6 [.ref a1, .ref h0, .ref a3, .ref a4, .ref a5, .int (iI lo)]), (a5, aI E 6 ru), (h0, oo 0 [.int (iI cn), .ref b1, .ref b2, .ref b3, .ref b4, .ref b5, .ref b6, .ref b7, .ref b8]), (b7, aI E 6 on), (b8, aZ E 6 se)]) [0, 1, 2, 3, 4] rfl (by decide) rfl ?_
  refine g_if_ne_b (tgt := 9) dX6_seal_4 rfl (fun c_2 => ?_) (fun c_2 => ?_)
  · refine g_aload_n 0 dX6_seal_9 rfl rfl ?_
    refine g_get (C := RX6) (T := TX6) (N := 6) 0 1 (fun _ h => List.mem_cons_of_mem _ (List.mem_append_left _ (List.mem_append_right _ h))) (List.mem_of_getElem? (i := 1) rfl) rfl rfl (by decide) rfl rfl dX6_seal_10 ?_
    refine g_iload_n 1 dX6_seal_13 rfl rfl ?_
    refine g_callV_i (n := 1) (As := [.int (iI pal)]) (wr := [(x0, oo 6 [.ref a1, .ref h0, .ref a3, .ref a4, .ref a5, .int (iI lo)]), (a5, aI E 6 ru)]) (C := RX0) [] (c_X0_sealPallet E h0 b1 b2 b3 b4 b5 b6 b7 b8 cn on se pal (by omega) (by omega) (by omega) (by omega) (by omega)) [2, 3, 4] [0, 1] 0 rfl rfl gX6_seal_X0_sealPallet rfl ⟨rfl, by decide +kernel⟩ ⟨by decide, by decide⟩ rfl rfl rfl rfl rfl (by decide) rfl (by decide) (by decide) (fun _ h => absurd h List.not_mem_nil) dX6_seal_14 rfl (Nat.le_of_ble_eq_true rfl) ⟨by decide, by decide⟩ (fun r u p_3 => ?_)
    obtain ⟨x_4, se_5, fq, rfl, rfl⟩ := p_3
    exact g_iret hRet dX6_seal_17 rfl ⟨x_4, se_5, (by unfold sp_seal; rw [if_neg (by omega)]; exact fq), rfl, rfl⟩
  · refine g_iconst dX6_seal_7 ?_
    exact g_iret hRet dX6_seal_8 rfl ⟨(-1), se, (by unfold sp_seal; rw [if_pos (by omega)]; exact ⟨rfl, rfl⟩), rfl, rfl⟩

set_option maxHeartbeats 4000000 in
set_option maxRecDepth 100000 in
theorem c_X6_breakUp (E : Ev) (x0 : Nat) (a1 : Nat) (a3 : Nat) (a4 : Nat) (a5 : Nat) (lo : Int) (ru : Int → Int) (h0 : Nat) (b1 : Nat) (b2 : Nat) (b3 : Nat) (b4 : Nat) (b5 : Nat) (b6 : Nat) (b7 : Nat) (b8 : Nat) (cn : Int) (bo : Int → Int) (un : Int → Int) (cl : Int → Int) (pl : Int → Int) (on : Int → Int) (se : Int → Int) (what : Int) (i : Int) (hcn : 0 ≤ cn ∧ cn ≤ 200) (hru : (1 ≤ ru 0 ∧ ru 0 ≤ 12) ∧ (1 ≤ ru 1 ∧ ru 1 ≤ 20) ∧ (0 ≤ ru 2 ∧ ru 2 ≤ 10000) ∧ (0 ≤ ru 3 ∧ ru 3 ≤ 10000) ∧ (0 ≤ ru 4 ∧ ru 4 ≤ 1000) ∧ (0 ≤ ru 5 ∧ ru 5 ≤ 500)) (hbo : ∀ k, -4 ≤ bo k ∧ bo k ≤ 29) (hun : ∀ k, 0 ≤ un k ∧ un k ≤ 200) (hcl : ∀ k, 0 ≤ cl k ∧ cl k ≤ 1) (hpl : ∀ k, -4 ≤ pl k ∧ pl k ≤ 5) (hon : ∀ k, 0 ≤ on k ∧ on k ≤ 30) (hse : ∀ k, 0 ≤ se k ∧ se k ≤ 1) (h_what : -2147483648 ≤ what ∧ what ≤ 2147483647) (h_i : -2147483648 ≤ i ∧ i ≤ 2147483647) : MI yX6_breakUp wsX6_breakUp ({ frames := 2, cells := 0, slots := 0, locals := 42 } : Room) E [] 0 0 [.ref x0, .int (iI what), .int (iI i)] [(x0, oo 6 [.ref a1, .ref h0, .ref a3, .ref a4, .ref a5, .int (iI lo)]), (a5, aI E 6 ru), (h0, oo 0 [.int (iI cn), .ref b1, .ref b2, .ref b3, .ref b4, .ref b5, .ref b6, .ref b7, .ref b8]), (b1, aI E 200 bo), (b4, aI E 30 un), (b5, aZ E 30 cl), (b6, aI E 30 pl), (b7, aI E 6 on), (b8, aZ E 6 se)] (fun r u => ∃ (x : Int), ∃ (bo' : Int → Int), ∃ (un' : Int → Int), ∃ (cl' : Int → Int), ∃ (pl' : Int → Int), ∃ (on' : Int → Int), ∃ (se' : Int → Int), sp_break cn bo cl un pl on se what i x bo' un' cl' pl' on' se' ∧ r = iI x ∧ u = [(x0, oo 6 [.ref a1, .ref h0, .ref a3, .ref a4, .ref a5, .int (iI lo)]), (a5, aI E 6 ru), (h0, oo 0 [.int (iI cn), .ref b1, .ref b2, .ref b3, .ref b4, .ref b5, .ref b6, .ref b7, .ref b8]), (b1, aI E 200 bo'), (b4, aI E 30 un'), (b5, aZ E 30 cl'), (b6, aI E 30 pl'), (b7, aI E 6 on'), (b8, aZ E 6 se')]) := by
  refine MI.of (cc := cX6_breakUp) (maxL := 3) (own := RX6) (by decide) rfl rfl rfl (Nat.le_of_ble_eq_true rfl) [(0, .ref x0), (1, .int (iI what)), (2, .int (iI i))] rfl ?_
  intro X hin2 hRet
  refine g_iload_n 1 dX6_breakUp_0 rfl rfl ?_
  refine g_if_ne (tgt := 20) (by unfold R32; omega) dX6_breakUp_1 rfl (fun c_1 => ?_) (fun c_1 => ?_)
  · refine g_iload_n 2 dX6_breakUp_4 rfl rfl ?_
    refine g_callS_i (n := 1) (As := [.int (iI i)]) (wr := [(x0, oo 6 [.ref a1, .ref h0, .ref a3, .ref a4, .ref a5, .int (iI lo)]), (a5, aI E 6 ru), (h0, oo 0 [.int (iI cn), .ref b1, .ref b2, .ref b3, .ref b4, .ref b5, .ref b6, .ref b7, .ref b8]), (b1, aI E 200 bo), (b4, aI E 30 un), (b5, aZ E 30 cl), (b6, aI E 30 pl), (b7, aI E 6 on), (b8, aZ E 6 se)]) [] (c_X6_isBox E i (by omega)) [] [0, 1, 2, 3, 4, 5, 6, 7, 8] gX6_breakUp_X6_isBox rfl ⟨rfl, by decide +kernel⟩ ⟨by decide, by decide⟩ rfl rfl rfl rfl rfl (by decide) rfl (by decide) (by decide) (fun _ h => absurd h List.not_mem_nil) dX6_breakUp_5 rfl (Nat.le_of_ble_eq_true rfl) ⟨by decide, by decide⟩ (fun r u p_2 => ?_)
    obtain ⟨rfl, rfl⟩ := p_2
    refine g_perm (ws1 := [(x0, oo 6 [.ref a1, .ref h0, .ref a3, .ref a4, .ref a5, .int (iI lo)]), (a5, aI E 6 ru), (h0, oo 0 [.int (iI cn), .ref b1, .ref b2, .ref b3, .ref b4, .ref b5, .ref b6, .ref b7, .ref b8]), (b1, aI E 200 bo), (b4, aI E 30 un), (b5, aZ E 30 cl), (b6, aI E 30 pl), (b7, aI E 6 on), (b8, aZ E 6 se)]) [0, 1, 2, 3, 4, 5, 6, 7, 8] rfl (by decide) rfl ?_
    refine g_if_eq_b (tgt := 20) dX6_breakUp_8 rfl (fun c_3 => ?_) (fun c_3 => ?_)
    · refine g_aload_n 0 dX6_breakUp_11 rfl rfl ?_
      refine g_get (C := RX6) (T := TX6) (N := 6) 0 1 (fun _ h => List.mem_cons_of_mem _ (List.mem_append_left _ (List.mem_append_right _ h))) (List.mem_of_getElem? (i := 1) rfl) rfl rfl (by decide) rfl rfl dX6_breakUp_12 ?_
      refine g_iload_n 2 dX6_breakUp_15 rfl rfl ?_
      refine g_callV_i (n := 1) (As := [.int (iI i)]) (wr := [(x0, oo 6 [.ref a1, .ref h0, .ref a3, .ref a4, .ref a5, .int (iI lo)]), (a5, aI E 6 ru), (b7, aI E 6 on), (b8, aZ E 6 se)]) (C := RX0) [] (c_X0_breakBox E h0 b1 b2 b3 b4 b5 b6 b7 b8 cn bo un cl pl i (by omega) (by omega) (by omega) (by omega) (by omega) (by omega) (by omega)) [2, 3, 4, 5, 6] [0, 1, 7, 8] 0 rfl rfl gX6_breakUp_X0_breakBox rfl ⟨rfl, by decide +kernel⟩ ⟨by decide, by decide⟩ rfl rfl rfl rfl rfl (by decide) rfl (by decide) (by decide) (fun _ h => absurd h List.not_mem_nil) dX6_breakUp_16 rfl (Nat.le_of_ble_eq_true rfl) ⟨by decide, by decide⟩ (fun r u p_4 => ?_)
      obtain ⟨x_5, bo_6, un_7, cl_8, fq, rfl, rfl⟩ := p_4
      refine g_perm (ws1 := [(x0, oo 6 [.ref a1, .ref h0, .ref a3, .ref a4, .ref a5, .int (iI lo)]), (a5, aI E 6 ru), (h0, oo 0 [.int (iI cn), .ref b1, .ref b2, .ref b3, .ref b4, .ref b5, .ref b6, .ref b7, .ref b8]), (b1, aI E 200 bo_6), (b4, aI E 30 un_7), (b5, aZ E 30 cl_8), (b6, aI E 30 pl), (b7, aI E 6 on), (b8, aZ E 6 se)]) [0, 1, 4, 5, 6, 7, 8, 2, 3] rfl (by decide) rfl ?_
      exact g_iret hRet dX6_breakUp_19 rfl ⟨x_5, bo_6, un_7, cl_8, pl, on, se, (by unfold sp_break; rw [if_pos (by omega)]; exact ⟨fq, rfl, rfl, rfl⟩), rfl, rfl⟩
    · refine g_iload_n 1 dX6_breakUp_20 rfl rfl ?_
      refine g_iconst dX6_breakUp_21 ?_
      refine g_icmp_ne (tgt := 41) (by unfold R32; omega) (by unfold R32; omega) dX6_breakUp_22 rfl (fun c_9 => ?_) (fun c_9 => ?_)
      · refine g_iload_n 2 dX6_breakUp_25 rfl rfl ?_
        refine g_callS_i (n := 1) (As := [.int (iI i)]) (wr := [(x0, oo 6 [.ref a1, .ref h0, .ref a3, .ref a4, .ref a5, .int (iI lo)]), (a5, aI E 6 ru), (h0, oo 0 [.int (iI cn), .ref b1, .ref b2, .ref b3, .ref b4, .ref b5, .ref b6, .ref b7, .ref b8]), (b1, aI E 200 bo), (b4, aI E 30 un), (b5, aZ E 30 cl), (b6, aI E 30 pl), (b7, aI E 6 on), (b8, aZ E 6 se)]) [] (c_X6_isPallet E i (by omega)) [] [0, 1, 2, 3, 4, 5, 6, 7, 8] gX6_breakUp_X6_isPallet rfl ⟨rfl, by decide +kernel⟩ ⟨by decide, by decide⟩ rfl rfl rfl rfl rfl (by decide) rfl (by decide) (by decide) (fun _ h => absurd h List.not_mem_nil) dX6_breakUp_26 rfl (Nat.le_of_ble_eq_true rfl) ⟨by decide, by decide⟩ (fun r u p_10 => ?_)
        obtain ⟨rfl, rfl⟩ := p_10
        refine g_perm (ws1 := [(x0, oo 6 [.ref a1, .ref h0, .ref a3, .ref a4, .ref a5, .int (iI lo)]), (a5, aI E 6 ru), (h0, oo 0 [.int (iI cn), .ref b1, .ref b2, .ref b3, .ref b4, .ref b5, .ref b6, .ref b7, .ref b8]), (b1, aI E 200 bo), (b4, aI E 30 un), (b5, aZ E 30 cl), (b6, aI E 30 pl), (b7, aI E 6 on), (b8, aZ E 6 se)]) [0, 1, 2, 3, 4, 5, 6, 7, 8] rfl (by decide) rfl ?_
        refine g_if_eq_b (tgt := 41) dX6_breakUp_29 rfl (fun c_11 => ?_) (fun c_11 => ?_)
        · refine g_aload_n 0 dX6_breakUp_32 rfl rfl ?_
          refine g_get (C := RX6) (T := TX6) (N := 6) 0 1 (fun _ h => List.mem_cons_of_mem _ (List.mem_append_left _ (List.mem_append_right _ h))) (List.mem_of_getElem? (i := 1) rfl) rfl rfl (by decide) rfl rfl dX6_breakUp_33 ?_
          refine g_iload_n 2 dX6_breakUp_36 rfl rfl ?_
          refine g_callV_i (n := 1) (As := [.int (iI i)]) (wr := [(x0, oo 6 [.ref a1, .ref h0, .ref a3, .ref a4, .ref a5, .int (iI lo)]), (a5, aI E 6 ru), (b1, aI E 200 bo), (b4, aI E 30 un), (b5, aZ E 30 cl)]) (C := RX0) [] (c_X0_breakPallet E h0 b1 b2 b3 b4 b5 b6 b7 b8 cn pl on se i (by omega) (by omega) (by omega) (by omega) (by omega) (by omega)) [2, 6, 7, 8] [0, 1, 3, 4, 5] 0 rfl rfl gX6_breakUp_X0_breakPallet rfl ⟨rfl, by decide +kernel⟩ ⟨by decide, by decide⟩ rfl rfl rfl rfl rfl (by decide) rfl (by decide) (by decide) (fun _ h => absurd h List.not_mem_nil) dX6_breakUp_37 rfl (Nat.le_of_ble_eq_true rfl) ⟨by decide, by decide⟩ (fun r u p_12 => ?_)
          obtain ⟨pl_13, fq, rfl, rfl⟩ := p_12
          refine g_perm (ws1 := [(x0, oo 6 [.ref a1, .ref h0, .ref a3, .ref a4, .ref a5, .int (iI lo)]), (a5, aI E 6 ru), (h0, oo 0 [.int (iI cn), .ref b1, .ref b2, .ref b3, .ref b4, .ref b5, .ref b6, .ref b7, .ref b8]), (b1, aI E 200 bo), (b4, aI E 30 un), (b5, aZ E 30 cl), (b6, aI E 30 pl_13), (b7, aI E 6 (up on i 0)), (b8, aZ E 6 (up se i 0))]) [0, 1, 5, 2, 3, 4, 6, 7, 8] rfl (by decide) rfl ?_
          exact g_iret hRet dX6_breakUp_40 rfl ⟨(on i), bo, un, cl, pl_13, (up on i 0), (up se i 0), (by unfold sp_break; rw [if_neg (by omega), if_pos (by omega)]; exact ⟨rfl, rfl, rfl, rfl, fq, rfl, rfl⟩), rfl, rfl⟩
        · refine g_iconst dX6_breakUp_41 ?_
          exact g_iret hRet dX6_breakUp_42 rfl ⟨(-1), bo, un, cl, pl, on, se, (by unfold sp_break; rw [if_neg (by omega), if_neg (by omega)]; exact ⟨rfl, rfl, rfl, rfl, rfl, rfl, rfl⟩), rfl, rfl⟩
      · refine g_iconst dX6_breakUp_41 ?_
        exact g_iret hRet dX6_breakUp_42 rfl ⟨(-1), bo, un, cl, pl, on, se, (by unfold sp_break; rw [if_neg (by omega), if_neg (by omega)]; exact ⟨rfl, rfl, rfl, rfl, rfl, rfl, rfl⟩), rfl, rfl⟩
  · refine g_iload_n 1 dX6_breakUp_20 rfl rfl ?_
    refine g_iconst dX6_breakUp_21 ?_
    refine g_icmp_ne (tgt := 41) (by unfold R32; omega) (by unfold R32; omega) dX6_breakUp_22 rfl (fun c_14 => ?_) (fun c_14 => ?_)
    · refine g_iload_n 2 dX6_breakUp_25 rfl rfl ?_
      refine g_callS_i (n := 1) (As := [.int (iI i)]) (wr := [(x0, oo 6 [.ref a1, .ref h0, .ref a3, .ref a4, .ref a5, .int (iI lo)]), (a5, aI E 6 ru), (h0, oo 0 [.int (iI cn), .ref b1, .ref b2, .ref b3, .ref b4, .ref b5, .ref b6, .ref b7, .ref b8]), (b1, aI E 200 bo), (b4, aI E 30 un), (b5, aZ E 30 cl), (b6, aI E 30 pl), (b7, aI E 6 on), (b8, aZ E 6 se)]) [] (c_X6_isPallet E i (by omega)) [] [0, 1, 2, 3, 4, 5, 6, 7, 8] gX6_breakUp_X6_isPallet rfl ⟨rfl, by decide +kernel⟩ ⟨by decide, by decide⟩ rfl rfl rfl rfl rfl (by decide) rfl (by decide) (by decide) (fun _ h => absurd h List.not_mem_nil) dX6_breakUp_26 rfl (Nat.le_of_ble_eq_true rfl) ⟨by decide, by decide⟩ (fun r u p_15 => ?_)
      obtain ⟨rfl, rfl⟩ := p_15
      refine g_perm (ws1 := [(x0, oo 6 [.ref a1, .ref h0, .ref a3, .ref a4, .ref a5, .int (iI lo)]), (a5, aI E 6 ru), (h0, oo 0 [.int (iI cn), .ref b1, .ref b2, .ref b3, .ref b4, .ref b5, .ref b6, .ref b7, .ref b8]), (b1, aI E 200 bo), (b4, aI E 30 un), (b5, aZ E 30 cl), (b6, aI E 30 pl), (b7, aI E 6 on), (b8, aZ E 6 se)]) [0, 1, 2, 3, 4, 5, 6, 7, 8] rfl (by decide) rfl ?_
      refine g_if_eq_b (tgt := 41) dX6_breakUp_29 rfl (fun c_16 => ?_) (fun c_16 => ?_)
      · refine g_aload_n 0 dX6_breakUp_32 rfl rfl ?_
        refine g_get (C := RX6) (T := TX6) (N := 6) 0 1 (fun _ h => List.mem_cons_of_mem _ (List.mem_append_left _ (List.mem_append_right _ h))) (List.mem_of_getElem? (i := 1) rfl) rfl rfl (by decide) rfl rfl dX6_breakUp_33 ?_
        refine g_iload_n 2 dX6_breakUp_36 rfl rfl ?_
        refine g_callV_i (n := 1) (As := [.int (iI i)]) (wr := [(x0, oo 6 [.ref a1, .ref h0, .ref a3, .ref a4, .ref a5, .int (iI lo)]), (a5, aI E 6 ru), (b1, aI E 200 bo), (b4, aI E 30 un), (b5, aZ E 30 cl)]) (C := RX0) [] (c_X0_breakPallet E h0 b1 b2 b3 b4 b5 b6 b7 b8 cn pl on se i (by omega) (by omega) (by omega) (by omega) (by omega) (by omega)) [2, 6, 7, 8] [0, 1, 3, 4, 5] 0 rfl rfl gX6_breakUp_X0_breakPallet rfl ⟨rfl, by decide +kernel⟩ ⟨by decide, by decide⟩ rfl rfl rfl rfl rfl (by decide) rfl (by decide) (by decide) (fun _ h => absurd h List.not_mem_nil) dX6_breakUp_37 rfl (Nat.le_of_ble_eq_true rfl) ⟨by decide, by decide⟩ (fun r u p_17 => ?_)
        obtain ⟨pl_18, fq, rfl, rfl⟩ := p_17
        refine g_perm (ws1 := [(x0, oo 6 [.ref a1, .ref h0, .ref a3, .ref a4, .ref a5, .int (iI lo)]), (a5, aI E 6 ru), (h0, oo 0 [.int (iI cn), .ref b1, .ref b2, .ref b3, .ref b4, .ref b5, .ref b6, .ref b7, .ref b8]), (b1, aI E 200 bo), (b4, aI E 30 un), (b5, aZ E 30 cl), (b6, aI E 30 pl_18), (b7, aI E 6 (up on i 0)), (b8, aZ E 6 (up se i 0))]) [0, 1, 5, 2, 3, 4, 6, 7, 8] rfl (by decide) rfl ?_
        exact g_iret hRet dX6_breakUp_40 rfl ⟨(on i), bo, un, cl, pl_18, (up on i 0), (up se i 0), (by unfold sp_break; rw [if_neg (by omega), if_pos (by omega)]; exact ⟨rfl, rfl, rfl, rfl, fq, rfl, rfl⟩), rfl, rfl⟩
      · refine g_iconst dX6_breakUp_41 ?_
        exact g_iret hRet dX6_breakUp_42 rfl ⟨(-1), bo, un, cl, pl, on, se, (by unfold sp_break; rw [if_neg (by omega), if_neg (by omega)]; exact ⟨rfl, rfl, rfl, rfl, rfl, rfl, rfl⟩), rfl, rfl⟩
    · refine g_iconst dX6_breakUp_41 ?_
      exact g_iret hRet dX6_breakUp_42 rfl ⟨(-1), bo, un, cl, pl, on, se, (by unfold sp_break; rw [if_neg (by omega), if_neg (by omega)]; exact ⟨rfl, rfl, rfl, rfl, rfl, rfl, rfl⟩), rfl, rfl⟩

set_option maxHeartbeats 4000000 in
set_option maxRecDepth 100000 in
theorem c_X6_code (E : Ev) (x0 : Nat) (a1 : Nat) (a3 : Nat) (a4 : Nat) (a5 : Nat) (lo : Int) (ru : Int → Int) (h0 : Nat) (b1 : Nat) (b2 : Nat) (b3 : Nat) (b4 : Nat) (b5 : Nat) (b6 : Nat) (b7 : Nat) (b8 : Nat) (cn : Int) (bo : Int → Int) (pl : Int → Int) (lt : Int → Int) (wg : Int → Int) (code : Int) (what : Int) (hcn : 0 ≤ cn ∧ cn ≤ 200) (hru : (1 ≤ ru 0 ∧ ru 0 ≤ 12) ∧ (1 ≤ ru 1 ∧ ru 1 ≤ 20) ∧ (0 ≤ ru 2 ∧ ru 2 ≤ 10000) ∧ (0 ≤ ru 3 ∧ ru 3 ≤ 10000) ∧ (0 ≤ ru 4 ∧ ru 4 ≤ 1000) ∧ (0 ≤ ru 5 ∧ ru 5 ≤ 500)) (hbo : ∀ k, -4 ≤ bo k ∧ bo k ≤ 29) (hpl : ∀ k, -4 ≤ pl k ∧ pl k ≤ 5) (hlt : ∀ k, 0 ≤ lt k ∧ lt k ≤ 15) (hwg : ∀ k, -4 ≤ wg k ∧ wg k ≤ 10000) (h_code : -2147483648 ≤ code ∧ code ≤ 2147483647) (h_what : -2147483648 ≤ what ∧ what ≤ 2147483647) : MI yX6_code wsX6_code ({ frames := 3, cells := 0, slots := 0, locals := 64 } : Room) E [] 0 0 [.ref x0, .int (iI code), .int (iI what)] [(x0, oo 6 [.ref a1, .ref h0, .ref a3, .ref a4, .ref a5, .int (iI lo)]), (a5, aI E 6 ru), (h0, oo 0 [.int (iI cn), .ref b1, .ref b2, .ref b3, .ref b4, .ref b5, .ref b6, .ref b7, .ref b8]), (b1, aI E 200 bo), (b6, aI E 30 pl), (b2, aI E 200 lt), (b3, aI E 200 wg)] (fun r u => r = iI (f_code cn bo pl lt wg code what) ∧ u = [(x0, oo 6 [.ref a1, .ref h0, .ref a3, .ref a4, .ref a5, .int (iI lo)]), (a5, aI E 6 ru), (h0, oo 0 [.int (iI cn), .ref b1, .ref b2, .ref b3, .ref b4, .ref b5, .ref b6, .ref b7, .ref b8]), (b1, aI E 200 bo), (b6, aI E 30 pl), (b2, aI E 200 lt), (b3, aI E 200 wg)]) := by
  refine MI.of (cc := cX6_code) (maxL := 3) (own := RX6) (by decide) rfl rfl rfl (Nat.le_of_ble_eq_true rfl) [(0, .ref x0), (1, .int (iI code)), (2, .int (iI what))] rfl ?_
  intro X hin2 hRet
  refine g_aload_n 0 dX6_code_0 rfl rfl ?_
  refine g_get (C := RX6) (T := TX6) (N := 6) 0 1 (fun _ h => List.mem_cons_of_mem _ (List.mem_append_left _ (List.mem_append_right _ h))) (List.mem_of_getElem? (i := 1) rfl) rfl rfl (by decide) rfl rfl dX6_code_1 ?_
  refine g_iload_n 1 dX6_code_4 rfl rfl ?_
  refine g_callV_i (n := 1) (As := [.int (iI code)]) (wr := [(x0, oo 6 [.ref a1, .ref h0, .ref a3, .ref a4, .ref a5, .int (iI lo)]), (a5, aI E 6 ru), (b1, aI E 200 bo), (b6, aI E 30 pl), (b2, aI E 200 lt), (b3, aI E 200 wg)]) (C := RX0) [] (c_X0_known E h0 b1 b2 b3 b4 b5 b6 b7 b8 cn code (by omega) (by omega)) [2] [0, 1, 3, 4, 5, 6] 0 rfl rfl gX6_code_X0_known rfl ⟨rfl, by decide +kernel⟩ ⟨by decide, by decide⟩ rfl rfl rfl rfl rfl (by decide) rfl (by decide) (by decide) (fun _ h => absurd h List.not_mem_nil) dX6_code_5 rfl (Nat.le_of_ble_eq_true rfl) ⟨by decide, by decide⟩ (fun r u p_1 => ?_)
  obtain ⟨rfl, rfl⟩ := p_1
  refine g_perm (ws1 := [(x0, oo 6 [.ref a1, .ref h0, .ref a3, .ref a4, .ref a5, .int (iI lo)]), (a5, aI E 6 ru), (h0, oo 0 [.int (iI cn), .ref b1, .ref b2, .ref b3, .ref b4, .ref b5, .ref b6, .ref b7, .ref b8]), (b1, aI E 200 bo), (b6, aI E 30 pl), (b2, aI E 200 lt), (b3, aI E 200 wg)]) [0, 1, 6, 2, 3, 4, 5] rfl (by decide) rfl ?_
  refine g_if_ne_b (tgt := 13) dX6_code_8 rfl (fun c_2 => ?_) (fun c_2 => ?_)
  · refine g_iload_n 2 dX6_code_13 rfl rfl ?_
    rcases (show what = 0 ∨ what = 1 ∨ what = 2 ∨ what = 3 ∨ (what < 0 ∨ 3 < what) by omega) with c_3 | c_3 | c_3 | c_3 | c_3
    · refine g_tableIn (tgt := 44) (off := 30) (by unfold R32; omega) dX6_code_14 (by omega) (by rw [c_3]; rfl) rfl ?_
      refine g_aload_n 0 dX6_code_44 rfl rfl ?_
      refine g_get (C := RX6) (T := TX6) (N := 6) 0 1 (fun _ h => List.mem_cons_of_mem _ (List.mem_append_left _ (List.mem_append_right _ h))) (List.mem_of_getElem? (i := 1) rfl) rfl rfl (by decide) rfl rfl dX6_code_45 ?_
      refine g_get (C := RX0) (T := TX0) (N := 9) 2 1 (fun _ h => List.mem_cons_of_mem _ (List.mem_append_right _ h)) (List.mem_of_getElem? (i := 2) rfl) rfl rfl (by decide) rfl rfl dX6_code_48 ?_
      refine g_iload_n 1 dX6_code_51 rfl rfl ?_
      refine g_iald 3 dX6_code_52 rfl (by decide) (by omega) (by omega) ?_
      have q_4 := hbo code
      exact g_iret hRet dX6_code_53 rfl ⟨(congrArg iI (by unfold f_code; (repeat' split) <;> first | rfl | (exfalso; omega))), rfl⟩
    · refine g_tableIn (tgt := 54) (off := 40) (by unfold R32; omega) dX6_code_14 (by omega) (by rw [c_3]; rfl) rfl ?_
      refine g_aload_n 0 dX6_code_54 rfl rfl ?_
      refine g_get (C := RX6) (T := TX6) (N := 6) 0 1 (fun _ h => List.mem_cons_of_mem _ (List.mem_append_left _ (List.mem_append_right _ h))) (List.mem_of_getElem? (i := 1) rfl) rfl rfl (by decide) rfl rfl dX6_code_55 ?_
      refine g_iload_n 1 dX6_code_58 rfl rfl ?_
      refine g_callV_i (n := 1) (As := [.int (iI code)]) (wr := [(x0, oo 6 [.ref a1, .ref h0, .ref a3, .ref a4, .ref a5, .int (iI lo)]), (a5, aI E 6 ru), (b2, aI E 200 lt), (b3, aI E 200 wg)]) (C := RX0) [] (c_X0_palletOfCode E h0 b1 b2 b3 b4 b5 b6 b7 b8 cn bo pl code (by omega) (by omega) (by omega) (by omega) (by omega)) [2, 3, 4] [0, 1, 5, 6] 0 rfl rfl gX6_code_X0_palletOfCode rfl ⟨rfl, by decide +kernel⟩ ⟨by decide, by decide⟩ rfl rfl rfl rfl rfl (by decide) rfl (by decide) (by decide) (fun _ h => absurd h List.not_mem_nil) dX6_code_59 rfl (Nat.le_of_ble_eq_true rfl) ⟨by decide, by decide⟩ (fun r u p_5 => ?_)
      obtain ⟨rfl, rfl⟩ := p_5
      refine g_perm (ws1 := [(x0, oo 6 [.ref a1, .ref h0, .ref a3, .ref a4, .ref a5, .int (iI lo)]), (a5, aI E 6 ru), (h0, oo 0 [.int (iI cn), .ref b1, .ref b2, .ref b3, .ref b4, .ref b5, .ref b6, .ref b7, .ref b8]), (b1, aI E 200 bo), (b6, aI E 30 pl), (b2, aI E 200 lt), (b3, aI E 200 wg)]) [0, 1, 4, 5, 6, 2, 3] rfl (by decide) rfl ?_
      exact g_iret hRet dX6_code_62 rfl ⟨(congrArg iI (by unfold f_code; (repeat' split) <;> first | rfl | (exfalso; omega))), rfl⟩
    · refine g_tableIn (tgt := 63) (off := 49) (by unfold R32; omega) dX6_code_14 (by omega) (by rw [c_3]; rfl) rfl ?_
      refine g_aload_n 0 dX6_code_63 rfl rfl ?_
      refine g_get (C := RX6) (T := TX6) (N := 6) 0 1 (fun _ h => List.mem_cons_of_mem _ (List.mem_append_left _ (List.mem_append_right _ h))) (List.mem_of_getElem? (i := 1) rfl) rfl rfl (by decide) rfl rfl dX6_code_64 ?_
      refine g_get (C := RX0) (T := TX0) (N := 9) 2 2 (fun _ h => List.mem_cons_of_mem _ (List.mem_append_right _ h)) (List.mem_of_getElem? (i := 3) rfl) rfl rfl (by decide) rfl rfl dX6_code_67 ?_
      refine g_iload_n 1 dX6_code_70 rfl rfl ?_
      refine g_iald 5 dX6_code_71 rfl (by decide) (by omega) (by omega) ?_
      have q_6 := hlt code
      exact g_iret hRet dX6_code_72 rfl ⟨(congrArg iI (by unfold f_code; (repeat' split) <;> first | rfl | (exfalso; omega))), rfl⟩
    · refine g_tableIn (tgt := 73) (off := 59) (by unfold R32; omega) dX6_code_14 (by omega) (by rw [c_3]; rfl) rfl ?_
      refine g_aload_n 0 dX6_code_73 rfl rfl ?_
      refine g_get (C := RX6) (T := TX6) (N := 6) 0 1 (fun _ h => List.mem_cons_of_mem _ (List.mem_append_left _ (List.mem_append_right _ h))) (List.mem_of_getElem? (i := 1) rfl) rfl rfl (by decide) rfl rfl dX6_code_74 ?_
      refine g_get (C := RX0) (T := TX0) (N := 9) 2 3 (fun _ h => List.mem_cons_of_mem _ (List.mem_append_right _ h)) (List.mem_of_getElem? (i := 4) rfl) rfl rfl (by decide) rfl rfl dX6_code_77 ?_
      refine g_iload_n 1 dX6_code_80 rfl rfl ?_
      refine g_iald 6 dX6_code_81 rfl (by decide) (by omega) (by omega) ?_
      have q_7 := hwg code
      exact g_iret hRet dX6_code_82 rfl ⟨(congrArg iI (by unfold f_code; (repeat' split) <;> first | rfl | (exfalso; omega))), rfl⟩
    · refine g_tableOut (tgt := 83) (by unfold R32; omega) dX6_code_14 c_3 rfl ?_
      refine g_iconst dX6_code_83 ?_
      exact g_iret hRet dX6_code_84 rfl ⟨(congrArg iI (by unfold f_code; (repeat' split) <;> first | rfl | (exfalso; omega))), rfl⟩
  · refine g_iconst dX6_code_11 ?_
    exact g_iret hRet dX6_code_12 rfl ⟨(congrArg iI (by unfold f_code; (repeat' split) <;> first | rfl | (exfalso; omega))), rfl⟩

set_option maxHeartbeats 4000000 in
set_option maxRecDepth 100000 in
theorem c_X6_box (E : Ev) (x0 : Nat) (a1 : Nat) (a3 : Nat) (a4 : Nat) (a5 : Nat) (lo : Int) (ru : Int → Int) (h0 : Nat) (b1 : Nat) (b2 : Nat) (b3 : Nat) (b4 : Nat) (b5 : Nat) (b6 : Nat) (b7 : Nat) (b8 : Nat) (cn : Int) (bo : Int → Int) (un : Int → Int) (cl : Int → Int) (pl : Int → Int) (box : Int) (what : Int) (hcn : 0 ≤ cn ∧ cn ≤ 200) (hru : (1 ≤ ru 0 ∧ ru 0 ≤ 12) ∧ (1 ≤ ru 1 ∧ ru 1 ≤ 20) ∧ (0 ≤ ru 2 ∧ ru 2 ≤ 10000) ∧ (0 ≤ ru 3 ∧ ru 3 ≤ 10000) ∧ (0 ≤ ru 4 ∧ ru 4 ≤ 1000) ∧ (0 ≤ ru 5 ∧ ru 5 ≤ 500)) (hbo : ∀ k, -4 ≤ bo k ∧ bo k ≤ 29) (hun : ∀ k, 0 ≤ un k ∧ un k ≤ 200) (hcl : ∀ k, 0 ≤ cl k ∧ cl k ≤ 1) (hpl : ∀ k, -4 ≤ pl k ∧ pl k ≤ 5) (h_box : -2147483648 ≤ box ∧ box ≤ 2147483647) (h_what : -2147483648 ≤ what ∧ what ≤ 2147483647) : MI yX6_box wsX6_box ({ frames := 2, cells := 0, slots := 0, locals := 42 } : Room) E [] 0 0 [.ref x0, .int (iI box), .int (iI what)] [(x0, oo 6 [.ref a1, .ref h0, .ref a3, .ref a4, .ref a5, .int (iI lo)]), (a5, aI E 6 ru), (h0, oo 0 [.int (iI cn), .ref b1, .ref b2, .ref b3, .ref b4, .ref b5, .ref b6, .ref b7, .ref b8]), (b1, aI E 200 bo), (b4, aI E 30 un), (b5, aZ E 30 cl), (b6, aI E 30 pl)] (fun r u => ∃ (x : Int), sp_box cn bo un cl pl box what x ∧ r = iI x ∧ u = [(x0, oo 6 [.ref a1, .ref h0, .ref a3, .ref a4, .ref a5, .int (iI lo)]), (a5, aI E 6 ru), (h0, oo 0 [.int (iI cn), .ref b1, .ref b2, .ref b3, .ref b4, .ref b5, .ref b6, .ref b7, .ref b8]), (b1, aI E 200 bo), (b4, aI E 30 un), (b5, aZ E 30 cl), (b6, aI E 30 pl)]) := by
  refine MI.of (cc := cX6_box) (maxL := 3) (own := RX6) (by decide) rfl rfl rfl (Nat.le_of_ble_eq_true rfl) [(0, .ref x0), (1, .int (iI box)), (2, .int (iI what))] rfl ?_
  intro X hin2 hRet
  refine g_iload_n 1 dX6_box_0 rfl rfl ?_
  refine g_callS_i (n := 1) (As := [.int (iI box)]) (wr := [(x0, oo 6 [.ref a1, .ref h0, .ref a3, .ref a4, .ref a5, .int (iI lo)]), (a5, aI E 6 ru), (h0, oo 0 [.int (iI cn), .ref b1, .ref b2, .ref b3, .ref b4, .ref b5, .ref b6, .ref b7, .ref b8]), (b1, aI E 200 bo), (b4, aI E 30 un), (b5, aZ E 30 cl), (b6, aI E 30 pl)]) [] (c_X6_isBox E box (by omega)) [] [0, 1, 2, 3, 4, 5, 6] gX6_box_X6_isBox rfl ⟨rfl, by decide +kernel⟩ ⟨by decide, by decide⟩ rfl rfl rfl rfl rfl (by decide) rfl (by decide) (by decide) (fun _ h => absurd h List.not_mem_nil) dX6_box_1 rfl (Nat.le_of_ble_eq_true rfl) ⟨by decide, by decide⟩ (fun r u p_1 => ?_)
  obtain ⟨rfl, rfl⟩ := p_1
  refine g_perm (ws1 := [(x0, oo 6 [.ref a1, .ref h0, .ref a3, .ref a4, .ref a5, .int (iI lo)]), (a5, aI E 6 ru), (h0, oo 0 [.int (iI cn), .ref b1, .ref b2, .ref b3, .ref b4, .ref b5, .ref b6, .ref b7, .ref b8]), (b1, aI E 200 bo), (b4, aI E 30 un), (b5, aZ E 30 cl), (b6, aI E 30 pl)]) [0, 1, 2, 3, 4, 5, 6] rfl (by decide) rfl ?_
  refine g_if_ne_b (tgt := 9) dX6_box_4 rfl (fun c_2 => ?_) (fun c_2 => ?_)
  · refine g_iload_n 2 dX6_box_9 rfl rfl ?_
    rcases (show what = 0 ∨ what = 1 ∨ what = 2 ∨ what = 3 ∨ what = 4 ∨ (what < 0 ∨ 4 < what) by omega) with c_3 | c_3 | c_3 | c_3 | c_3 | c_3
    · refine g_tableIn (tgt := 44) (off := 34) (by unfold R32; omega) dX6_box_10 (by omega) (by rw [c_3]; rfl) rfl ?_
      refine g_aload_n 0 dX6_box_44 rfl rfl ?_
      refine g_get (C := RX6) (T := TX6) (N := 6) 0 1 (fun _ h => List.mem_cons_of_mem _ (List.mem_append_left _ (List.mem_append_right _ h))) (List.mem_of_getElem? (i := 1) rfl) rfl rfl (by decide) rfl rfl dX6_box_45 ?_
      refine g_get (C := RX0) (T := TX0) (N := 9) 2 4 (fun _ h => List.mem_cons_of_mem _ (List.mem_append_right _ h)) (List.mem_of_getElem? (i := 2) rfl) rfl rfl (by decide) rfl rfl dX6_box_48 ?_
      refine g_iload_n 1 dX6_box_51 rfl rfl ?_
      refine g_iald 4 dX6_box_52 rfl (by decide) (by omega) (by omega) ?_
      have q_4 := hun box
      exact g_iret hRet dX6_box_53 rfl ⟨(un box), (by unfold sp_box; (repeat' split) <;> first | (exfalso; omega) | exact fq | omega), rfl, rfl⟩
    · refine g_tableIn (tgt := 54) (off := 44) (by unfold R32; omega) dX6_box_10 (by omega) (by rw [c_3]; rfl) rfl ?_
      refine g_aload_n 0 dX6_box_54 rfl rfl ?_
      refine g_get (C := RX6) (T := TX6) (N := 6) 0 1 (fun _ h => List.mem_cons_of_mem _ (List.mem_append_left _ (List.mem_append_right _ h))) (List.mem_of_getElem? (i := 1) rfl) rfl rfl (by decide) rfl rfl dX6_box_55 ?_
      refine g_get (C := RX0) (T := TX0) (N := 9) 2 5 (fun _ h => List.mem_cons_of_mem _ (List.mem_append_right _ h)) (List.mem_of_getElem? (i := 3) rfl) rfl rfl (by decide) rfl rfl dX6_box_58 ?_
      refine g_iload_n 1 dX6_box_61 rfl rfl ?_
      refine g_zald 5 dX6_box_62 rfl (by decide) (by omega) (by omega) ?_
      have q_5 := hcl box
      refine g_if_eq (tgt := 70) (by unfold R32; omega) dX6_box_63 rfl (fun c_6 => ?_) (fun c_6 => ?_)
      · refine g_iconst dX6_box_70 ?_
        exact g_iret hRet dX6_box_71 rfl ⟨0, (by unfold sp_box; (repeat' split) <;> first | (exfalso; omega) | exact fq | omega), rfl, rfl⟩
      · refine g_iconst dX6_box_66 ?_
        refine g_goto (tgt := 71) dX6_box_67 rfl ?_
        exact g_iret hRet dX6_box_71 rfl ⟨1, (by unfold sp_box; (repeat' split) <;> first | (exfalso; omega) | exact fq | omega), rfl, rfl⟩
    · refine g_tableIn (tgt := 72) (off := 62) (by unfold R32; omega) dX6_box_10 (by omega) (by rw [c_3]; rfl) rfl ?_
      refine g_aload_n 0 dX6_box_72 rfl rfl ?_
      refine g_get (C := RX6) (T := TX6) (N := 6) 0 1 (fun _ h => List.mem_cons_of_mem _ (List.mem_append_left _ (List.mem_append_right _ h))) (List.mem_of_getElem? (i := 1) rfl) rfl rfl (by decide) rfl rfl dX6_box_73 ?_
      refine g_get (C := RX0) (T := TX0) (N := 9) 2 6 (fun _ h => List.mem_cons_of_mem _ (List.mem_append_right _ h)) (List.mem_of_getElem? (i := 4) rfl) rfl rfl (by decide) rfl rfl dX6_box_76 ?_
      refine g_iload_n 1 dX6_box_79 rfl rfl ?_
      refine g_iald 6 dX6_box_80 rfl (by decide) (by omega) (by omega) ?_
      have q_7 := hpl box
      exact g_iret hRet dX6_box_81 rfl ⟨(pl box), (by unfold sp_box; (repeat' split) <;> first | (exfalso; omega) | exact fq | omega), rfl, rfl⟩
    · refine g_tableIn (tgt := 82) (off := 72) (by unfold R32; omega) dX6_box_10 (by omega) (by rw [c_3]; rfl) rfl ?_
      refine g_aload_n 0 dX6_box_82 rfl rfl ?_
      refine g_get (C := RX6) (T := TX6) (N := 6) 0 1 (fun _ h => List.mem_cons_of_mem _ (List.mem_append_left _ (List.mem_append_right _ h))) (List.mem_of_getElem? (i := 1) rfl) rfl rfl (by decide) rfl rfl dX6_box_83 ?_
      refine g_iload_n 1 dX6_box_86 rfl rfl ?_
      refine g_callV_i (n := 1) (As := [.int (iI box)]) (wr := [(x0, oo 6 [.ref a1, .ref h0, .ref a3, .ref a4, .ref a5, .int (iI lo)]), (a5, aI E 6 ru), (b4, aI E 30 un), (b5, aZ E 30 cl), (b6, aI E 30 pl)]) (C := RX0) [] (c_X0_leastIn E h0 b1 b2 b3 b4 b5 b6 b7 b8 cn bo box (by omega) (by omega) (by omega)) [2, 3] [0, 1, 4, 5, 6] 0 rfl rfl gX6_box_X0_leastIn rfl ⟨rfl, by decide +kernel⟩ ⟨by decide, by decide⟩ rfl rfl rfl rfl rfl (by decide) rfl (by decide) (by decide) (fun _ h => absurd h List.not_mem_nil) dX6_box_87 rfl (Nat.le_of_ble_eq_true rfl) ⟨by decide, by decide⟩ (fun r u p_8 => ?_)
      obtain ⟨x_9, fq, rfl, rfl⟩ := p_8
      refine g_perm (ws1 := [(x0, oo 6 [.ref a1, .ref h0, .ref a3, .ref a4, .ref a5, .int (iI lo)]), (a5, aI E 6 ru), (h0, oo 0 [.int (iI cn), .ref b1, .ref b2, .ref b3, .ref b4, .ref b5, .ref b6, .ref b7, .ref b8]), (b1, aI E 200 bo), (b4, aI E 30 un), (b5, aZ E 30 cl), (b6, aI E 30 pl)]) [0, 1, 5, 6, 2, 3, 4] rfl (by decide) rfl ?_
      exact g_iret hRet dX6_box_90 rfl ⟨x_9, (by unfold sp_box; (repeat' split) <;> first | (exfalso; omega) | exact fq | omega), rfl, rfl⟩
    · refine g_tableIn (tgt := 91) (off := 81) (by unfold R32; omega) dX6_box_10 (by omega) (by rw [c_3]; rfl) rfl ?_
      refine g_aload_n 0 dX6_box_91 rfl rfl ?_
      refine g_get (C := RX6) (T := TX6) (N := 6) 0 1 (fun _ h => List.mem_cons_of_mem _ (List.mem_append_left _ (List.mem_append_right _ h))) (List.mem_of_getElem? (i := 1) rfl) rfl rfl (by decide) rfl rfl dX6_box_92 ?_
      refine g_iload_n 1 dX6_box_95 rfl rfl ?_
      refine g_callV_i (n := 1) (As := [.int (iI box)]) (wr := [(x0, oo 6 [.ref a1, .ref h0, .ref a3, .ref a4, .ref a5, .int (iI lo)]), (a5, aI E 6 ru), (b4, aI E 30 un), (b5, aZ E 30 cl), (b6, aI E 30 pl)]) (C := RX0) [] (c_X0_greatestIn E h0 b1 b2 b3 b4 b5 b6 b7 b8 cn bo box (by omega) (by omega) (by omega)) [2, 3] [0, 1, 4, 5, 6] 0 rfl rfl gX6_box_X0_greatestIn rfl ⟨rfl, by decide +kernel⟩ ⟨by decide, by decide⟩ rfl rfl rfl rfl rfl (by decide) rfl (by decide) (by decide) (fun _ h => absurd h List.not_mem_nil) dX6_box_96 rfl (Nat.le_of_ble_eq_true rfl) ⟨by decide, by decide⟩ (fun r u p_10 => ?_)
      obtain ⟨x_11, fq, rfl, rfl⟩ := p_10
      refine g_perm (ws1 := [(x0, oo 6 [.ref a1, .ref h0, .ref a3, .ref a4, .ref a5, .int (iI lo)]), (a5, aI E 6 ru), (h0, oo 0 [.int (iI cn), .ref b1, .ref b2, .ref b3, .ref b4, .ref b5, .ref b6, .ref b7, .ref b8]), (b1, aI E 200 bo), (b4, aI E 30 un), (b5, aZ E 30 cl), (b6, aI E 30 pl)]) [0, 1, 5, 6, 2, 3, 4] rfl (by decide) rfl ?_
      exact g_iret hRet dX6_box_99 rfl ⟨x_11, (by unfold sp_box; (repeat' split) <;> first | (exfalso; omega) | exact fq | omega), rfl, rfl⟩
    · refine g_tableOut (tgt := 100) (by unfold R32; omega) dX6_box_10 c_3 rfl ?_
      refine g_iconst dX6_box_100 ?_
      exact g_iret hRet dX6_box_101 rfl ⟨(-1), (by unfold sp_box; (repeat' split) <;> first | (exfalso; omega) | exact fq | omega), rfl, rfl⟩
  · refine g_iconst dX6_box_7 ?_
    exact g_iret hRet dX6_box_8 rfl ⟨(-1), (by unfold sp_box; (repeat' split) <;> first | (exfalso; omega) | exact fq | omega), rfl, rfl⟩

set_option maxHeartbeats 4000000 in
set_option maxRecDepth 100000 in
theorem c_X6_recall (E : Ev) (x0 : Nat) (a1 : Nat) (a3 : Nat) (a4 : Nat) (a5 : Nat) (lo : Int) (ru : Int → Int) (h0 : Nat) (b1 : Nat) (b2 : Nat) (b3 : Nat) (b4 : Nat) (b5 : Nat) (b6 : Nat) (b7 : Nat) (b8 : Nat) (cn : Int) (bo : Int → Int) (pl : Int → Int) (lt : Int → Int) (lot : Int) (what : Int) (hcn : 0 ≤ cn ∧ cn ≤ 200) (hru : (1 ≤ ru 0 ∧ ru 0 ≤ 12) ∧ (1 ≤ ru 1 ∧ ru 1 ≤ 20) ∧ (0 ≤ ru 2 ∧ ru 2 ≤ 10000) ∧ (0 ≤ ru 3 ∧ ru 3 ≤ 10000) ∧ (0 ≤ ru 4 ∧ ru 4 ≤ 1000) ∧ (0 ≤ ru 5 ∧ ru 5 ≤ 500)) (hbo : ∀ k, -4 ≤ bo k ∧ bo k ≤ 29) (hpl : ∀ k, -4 ≤ pl k ∧ pl k ≤ 5) (hlt : ∀ k, 0 ≤ lt k ∧ lt k ≤ 15) (h_lot : -2147483648 ≤ lot ∧ lot ≤ 2147483647) (h_what : -2147483648 ≤ what ∧ what ≤ 2147483647) : MI yX6_recall wsX6_recall ({ frames := 4, cells := 0, slots := 0, locals := 88 } : Room) E [] 0 0 [.ref x0, .int (iI lot), .int (iI what)] [(x0, oo 6 [.ref a1, .ref h0, .ref a3, .ref a4, .ref a5, .int (iI lo)]), (a5, aI E 6 ru), (h0, oo 0 [.int (iI cn), .ref b1, .ref b2, .ref b3, .ref b4, .ref b5, .ref b6, .ref b7, .ref b8]), (b1, aI E 200 bo), (b6, aI E 30 pl), (b2, aI E 200 lt)] (fun r u => r = f_recall cn lt bo pl lot what ∧ u = [(x0, oo 6 [.ref a1, .ref h0, .ref a3, .ref a4, .ref a5, .int (iI lo)]), (a5, aI E 6 ru), (h0, oo 0 [.int (iI cn), .ref b1, .ref b2, .ref b3, .ref b4, .ref b5, .ref b6, .ref b7, .ref b8]), (b1, aI E 200 bo), (b6, aI E 30 pl), (b2, aI E 200 lt)]) := by
  refine MI.of (cc := cX6_recall) (maxL := 3) (own := RX6) (by decide) rfl rfl rfl (Nat.le_of_ble_eq_true rfl) [(0, .ref x0), (1, .int (iI lot)), (2, .int (iI what))] rfl ?_
  intro X hin2 hRet
  refine g_iload_n 1 dX6_recall_0 rfl rfl ?_
  refine g_iconst dX6_recall_1 ?_
  refine g_bipush dX6_recall_2 rfl ?_
  refine g_callS_i (n := 3) (As := [.int (iI lot), .int (iI 0), .int (iI 15)]) (wr := [(x0, oo 6 [.ref a1, .ref h0, .ref a3, .ref a4, .ref a5, .int (iI lo)]), (a5, aI E 6 ru), (h0, oo 0 [.int (iI cn), .ref b1, .ref b2, .ref b3, .ref b4, .ref b5, .ref b6, .ref b7, .ref b8]), (b1, aI E 200 bo), (b6, aI E 30 pl), (b2, aI E 200 lt)]) [] (c_X6_within E lot 0 15 (by omega) (by omega) (by omega)) [] [0, 1, 2, 3, 4, 5] gX6_recall_X6_within rfl ⟨rfl, by decide +kernel⟩ ⟨by decide, by decide⟩ rfl rfl rfl rfl rfl (by decide) rfl (by decide) (by decide) (fun _ h => absurd h List.not_mem_nil) dX6_recall_4 rfl (Nat.le_of_ble_eq_true rfl) ⟨by decide, by decide⟩ (fun r u p_1 => ?_)
  obtain ⟨rfl, rfl⟩ := p_1
  refine g_perm (ws1 := [(x0, oo 6 [.ref a1, .ref h0, .ref a3, .ref a4, .ref a5, .int (iI lo)]), (a5, aI E 6 ru), (h0, oo 0 [.int (iI cn), .ref b1, .ref b2, .ref b3, .ref b4, .ref b5, .ref b6, .ref b7, .ref b8]), (b1, aI E 200 bo), (b6, aI E 30 pl), (b2, aI E 200 lt)]) [0, 1, 2, 3, 4, 5] rfl (by decide) rfl ?_
  refine g_if_ne_b (tgt := 12) dX6_recall_7 rfl (fun c_2 => ?_) (fun c_2 => ?_)
  · refine g_iload_n 2 dX6_recall_12 rfl rfl ?_
    rcases (show what = 0 ∨ what = 1 ∨ what = 2 ∨ (what < 0 ∨ 2 < what) by omega) with c_3 | c_3 | c_3 | c_3
    · refine g_tableIn (tgt := 40) (off := 27) (by unfold R32; omega) dX6_recall_13 (by omega) (by rw [c_3]; rfl) rfl ?_
      refine g_aload_n 0 dX6_recall_40 rfl rfl ?_
      refine g_get (C := RX6) (T := TX6) (N := 6) 0 1 (fun _ h => List.mem_cons_of_mem _ (List.mem_append_left _ (List.mem_append_right _ h))) (List.mem_of_getElem? (i := 1) rfl) rfl rfl (by decide) rfl rfl dX6_recall_41 ?_
      refine g_iload_n 1 dX6_recall_44 rfl rfl ?_
      refine g_callV_i (n := 1) (As := [.int (iI lot)]) (wr := [(x0, oo 6 [.ref a1, .ref h0, .ref a3, .ref a4, .ref a5, .int (iI lo)]), (a5, aI E 6 ru), (b6, aI E 30 pl)]) (C := RX0) [] (c_X0_boxesWith E h0 b1 b2 b3 b4 b5 b6 b7 b8 cn lt bo lot (by omega) (by omega) (by omega) (by omega)) [2, 5, 3] [0, 1, 4] 0 rfl rfl gX6_recall_X0_boxesWith rfl ⟨rfl, by decide +kernel⟩ ⟨by decide, by decide⟩ rfl rfl rfl rfl rfl (by decide) rfl (by decide) (by decide) (fun _ h => absurd h List.not_mem_nil) dX6_recall_45 rfl (Nat.le_of_ble_eq_true rfl) ⟨by decide, by decide⟩ (fun r u p_4 => ?_)
      obtain ⟨x_5, fq, rfl, rfl⟩ := p_4
      refine g_perm (ws1 := [(x0, oo 6 [.ref a1, .ref h0, .ref a3, .ref a4, .ref a5, .int (iI lo)]), (a5, aI E 6 ru), (h0, oo 0 [.int (iI cn), .ref b1, .ref b2, .ref b3, .ref b4, .ref b5, .ref b6, .ref b7, .ref b8]), (b1, aI E 200 bo), (b6, aI E 30 pl), (b2, aI E 200 lt)]) [0, 1, 3, 5, 2, 4] rfl (by decide) rfl ?_
      exact g_iret hRet dX6_recall_48 rfl ⟨(by unfold f_recall; rw [if_neg (by omega), if_pos (by omega)]; exact fq), rfl⟩
    · refine g_tableIn (tgt := 49) (off := 36) (by unfold R32; omega) dX6_recall_13 (by omega) (by rw [c_3]; rfl) rfl ?_
      refine g_aload_n 0 dX6_recall_49 rfl rfl ?_
      refine g_get (C := RX6) (T := TX6) (N := 6) 0 1 (fun _ h => List.mem_cons_of_mem _ (List.mem_append_left _ (List.mem_append_right _ h))) (List.mem_of_getElem? (i := 1) rfl) rfl rfl (by decide) rfl rfl dX6_recall_50 ?_
      refine g_iload_n 1 dX6_recall_53 rfl rfl ?_
      refine g_callV_i (n := 1) (As := [.int (iI lot)]) (wr := [(x0, oo 6 [.ref a1, .ref h0, .ref a3, .ref a4, .ref a5, .int (iI lo)]), (a5, aI E 6 ru)]) (C := RX0) [] (c_X0_palletsWith E h0 b1 b2 b3 b4 b5 b6 b7 b8 cn lt bo pl lot (by omega) (by omega) (by omega) (by omega) (by omega)) [2, 5, 3, 4] [0, 1] 0 rfl rfl gX6_recall_X0_palletsWith rfl ⟨rfl, by decide +kernel⟩ ⟨by decide, by decide⟩ rfl rfl rfl rfl rfl (by decide) rfl (by decide) (by decide) (fun _ h => absurd h List.not_mem_nil) dX6_recall_54 rfl (Nat.le_of_ble_eq_true rfl) ⟨by decide, by decide⟩ (fun r u p_6 => ?_)
      obtain ⟨x_7, fq, rfl, rfl⟩ := p_6
      refine g_perm (ws1 := [(x0, oo 6 [.ref a1, .ref h0, .ref a3, .ref a4, .ref a5, .int (iI lo)]), (a5, aI E 6 ru), (h0, oo 0 [.int (iI cn), .ref b1, .ref b2, .ref b3, .ref b4, .ref b5, .ref b6, .ref b7, .ref b8]), (b1, aI E 200 bo), (b6, aI E 30 pl), (b2, aI E 200 lt)]) [0, 1, 2, 4, 5, 3] rfl (by decide) rfl ?_
      exact g_iret hRet dX6_recall_57 rfl ⟨(by unfold f_recall; rw [if_neg (by omega), if_neg (by omega), if_pos (by omega)]; exact fq), rfl⟩
    · refine g_tableIn (tgt := 58) (off := 45) (by unfold R32; omega) dX6_recall_13 (by omega) (by rw [c_3]; rfl) rfl ?_
      refine g_aload_n 0 dX6_recall_58 rfl rfl ?_
      refine g_get (C := RX6) (T := TX6) (N := 6) 0 1 (fun _ h => List.mem_cons_of_mem _ (List.mem_append_left _ (List.mem_append_right _ h))) (List.mem_of_getElem? (i := 1) rfl) rfl rfl (by decide) rfl rfl dX6_recall_59 ?_
      refine g_iload_n 1 dX6_recall_62 rfl rfl ?_
      refine g_callV_i (n := 1) (As := [.int (iI lot)]) (wr := [(x0, oo 6 [.ref a1, .ref h0, .ref a3, .ref a4, .ref a5, .int (iI lo)]), (a5, aI E 6 ru), (b6, aI E 30 pl)]) (C := RX0) [] (c_X0_looseOf E h0 b1 b2 b3 b4 b5 b6 b7 b8 cn bo lt lot (by omega) (by omega) (by omega) (by omega)) [2, 3, 5] [0, 1, 4] 0 rfl rfl gX6_recall_X0_looseOf rfl ⟨rfl, by decide +kernel⟩ ⟨by decide, by decide⟩ rfl rfl rfl rfl rfl (by decide) rfl (by decide) (by decide) (fun _ h => absurd h List.not_mem_nil) dX6_recall_63 rfl (Nat.le_of_ble_eq_true rfl) ⟨by decide, by decide⟩ (fun r u p_8 => ?_)
      obtain ⟨x_9, fq, rfl, rfl⟩ := p_8
      refine g_perm (ws1 := [(x0, oo 6 [.ref a1, .ref h0, .ref a3, .ref a4, .ref a5, .int (iI lo)]), (a5, aI E 6 ru), (h0, oo 0 [.int (iI cn), .ref b1, .ref b2, .ref b3, .ref b4, .ref b5, .ref b6, .ref b7, .ref b8]), (b1, aI E 200 bo), (b6, aI E 30 pl), (b2, aI E 200 lt)]) [0, 1, 3, 4, 2, 5] rfl (by decide) rfl ?_
      exact g_iret hRet dX6_recall_66 rfl ⟨(by unfold f_recall; rw [if_neg (by omega), if_neg (by omega), if_neg (by omega), fq]), rfl⟩
    · refine g_tableOut (tgt := 67) (by unfold R32; omega) dX6_recall_13 c_3 rfl ?_
      refine g_iconst dX6_recall_67 ?_
      exact g_iret hRet dX6_recall_68 rfl ⟨(by unfold f_recall; rw [if_pos (by omega)]), rfl⟩
  · refine g_iconst dX6_recall_10 ?_
    exact g_iret hRet dX6_recall_11 rfl ⟨(by unfold f_recall; rw [if_pos (by omega)]), rfl⟩

set_option maxHeartbeats 4000000 in
set_option maxRecDepth 100000 in
theorem c_X6_scale (E : Ev) (x0 : Nat) (a1 : Nat) (a3 : Nat) (a4 : Nat) (a5 : Nat) (lo : Int) (ru : Int → Int) (h0 : Nat) (b1 : Nat) (b2 : Nat) (b3 : Nat) (b4 : Nat) (b5 : Nat) (b6 : Nat) (b7 : Nat) (b8 : Nat) (cn : Int) (wg : Int → Int) (code : Int) (v : Int) (hcn : 0 ≤ cn ∧ cn ≤ 200) (hru : (1 ≤ ru 0 ∧ ru 0 ≤ 12) ∧ (1 ≤ ru 1 ∧ ru 1 ≤ 20) ∧ (0 ≤ ru 2 ∧ ru 2 ≤ 10000) ∧ (0 ≤ ru 3 ∧ ru 3 ≤ 10000) ∧ (0 ≤ ru 4 ∧ ru 4 ≤ 1000) ∧ (0 ≤ ru 5 ∧ ru 5 ≤ 500)) (hwg : ∀ k, -4 ≤ wg k ∧ wg k ≤ 10000) (h_code : -2147483648 ≤ code ∧ code ≤ 2147483647) (h_v : -2147483648 ≤ v ∧ v ≤ 2147483647) : MI yX6_scale wsX6_scale ({ frames := 2, cells := 0, slots := 0, locals := 43 } : Room) E [] 0 0 [.ref x0, .int (iI code), .int (iI v)] [(x0, oo 6 [.ref a1, .ref h0, .ref a3, .ref a4, .ref a5, .int (iI lo)]), (a5, aI E 6 ru), (h0, oo 0 [.int (iI cn), .ref b1, .ref b2, .ref b3, .ref b4, .ref b5, .ref b6, .ref b7, .ref b8]), (b3, aI E 200 wg)] (fun r u => ∃ (x : Int), ∃ (wg' : Int → Int), sp_scale cn wg code v x wg' ∧ r = iI x ∧ u = [(x0, oo 6 [.ref a1, .ref h0, .ref a3, .ref a4, .ref a5, .int (iI lo)]), (a5, aI E 6 ru), (h0, oo 0 [.int (iI cn), .ref b1, .ref b2, .ref b3, .ref b4, .ref b5, .ref b6, .ref b7, .ref b8]), (b3, aI E 200 wg')]) := by
  refine MI.of (cc := cX6_scale) (maxL := 3) (own := RX6) (by decide) rfl rfl rfl (Nat.le_of_ble_eq_true rfl) [(0, .ref x0), (1, .int (iI code)), (2, .int (iI v))] rfl ?_
  intro X hin2 hRet
  refine g_aload_n 0 dX6_scale_0 rfl rfl ?_
  refine g_get (C := RX6) (T := TX6) (N := 6) 0 1 (fun _ h => List.mem_cons_of_mem _ (List.mem_append_left _ (List.mem_append_right _ h))) (List.mem_of_getElem? (i := 1) rfl) rfl rfl (by decide) rfl rfl dX6_scale_1 ?_
  refine g_iload_n 1 dX6_scale_4 rfl rfl ?_
  refine g_callV_i (n := 1) (As := [.int (iI code)]) (wr := [(x0, oo 6 [.ref a1, .ref h0, .ref a3, .ref a4, .ref a5, .int (iI lo)]), (a5, aI E 6 ru), (b3, aI E 200 wg)]) (C := RX0) [] (c_X0_known E h0 b1 b2 b3 b4 b5 b6 b7 b8 cn code (by omega) (by omega)) [2] [0, 1, 3] 0 rfl rfl gX6_scale_X0_known rfl ⟨rfl, by decide +kernel⟩ ⟨by decide, by decide⟩ rfl rfl rfl rfl rfl (by decide) rfl (by decide) (by decide) (fun _ h => absurd h List.not_mem_nil) dX6_scale_5 rfl (Nat.le_of_ble_eq_true rfl) ⟨by decide, by decide⟩ (fun r u p_1 => ?_)
  obtain ⟨rfl, rfl⟩ := p_1
  refine g_perm (ws1 := [(x0, oo 6 [.ref a1, .ref h0, .ref a3, .ref a4, .ref a5, .int (iI lo)]), (a5, aI E 6 ru), (h0, oo 0 [.int (iI cn), .ref b1, .ref b2, .ref b3, .ref b4, .ref b5, .ref b6, .ref b7, .ref b8]), (b3, aI E 200 wg)]) [0, 1, 3, 2] rfl (by decide) rfl ?_
  refine g_if_eq_b (tgt := 22) dX6_scale_8 rfl (fun c_2 => ?_) (fun c_2 => ?_)
  · refine g_iload_n 2 dX6_scale_11 rfl rfl ?_
    refine g_iconst dX6_scale_12 ?_
    refine g_sipush dX6_scale_13 rfl ?_
    refine g_callS_i (n := 3) (As := [.int (iI v), .int (iI 0), .int (iI 10000)]) (wr := [(x0, oo 6 [.ref a1, .ref h0, .ref a3, .ref a4, .ref a5, .int (iI lo)]), (a5, aI E 6 ru), (h0, oo 0 [.int (iI cn), .ref b1, .ref b2, .ref b3, .ref b4, .ref b5, .ref b6, .ref b7, .ref b8]), (b3, aI E 200 wg)]) [] (c_X6_within E v 0 10000 (by omega) (by omega) (by omega)) [] [0, 1, 2, 3] gX6_scale_X6_within rfl ⟨rfl, by decide +kernel⟩ ⟨by decide, by decide⟩ rfl rfl rfl rfl rfl (by decide) rfl (by decide) (by decide) (fun _ h => absurd h List.not_mem_nil) dX6_scale_16 rfl (Nat.le_of_ble_eq_true rfl) ⟨by decide, by decide⟩ (fun r u p_3 => ?_)
    obtain ⟨rfl, rfl⟩ := p_3
    refine g_perm (ws1 := [(x0, oo 6 [.ref a1, .ref h0, .ref a3, .ref a4, .ref a5, .int (iI lo)]), (a5, aI E 6 ru), (h0, oo 0 [.int (iI cn), .ref b1, .ref b2, .ref b3, .ref b4, .ref b5, .ref b6, .ref b7, .ref b8]), (b3, aI E 200 wg)]) [0, 1, 2, 3] rfl (by decide) rfl ?_
    refine g_if_ne_b (tgt := 24) dX6_scale_19 rfl (fun c_4 => ?_) (fun c_4 => ?_)
    · refine g_aload_n 0 dX6_scale_24 rfl rfl ?_
      refine g_get (C := RX6) (T := TX6) (N := 6) 0 1 (fun _ h => List.mem_cons_of_mem _ (List.mem_append_left _ (List.mem_append_right _ h))) (List.mem_of_getElem? (i := 1) rfl) rfl rfl (by decide) rfl rfl dX6_scale_25 ?_
      refine g_iload_n 1 dX6_scale_28 rfl rfl ?_
      refine g_iload_n 2 dX6_scale_29 rfl rfl ?_
      refine g_callV_i (n := 2) (As := [.int (iI code), .int (iI v)]) (wr := [(x0, oo 6 [.ref a1, .ref h0, .ref a3, .ref a4, .ref a5, .int (iI lo)]), (a5, aI E 6 ru)]) (C := RX0) [] (c_X0_putWeight E h0 b1 b2 b3 b4 b5 b6 b7 b8 cn wg code v (by omega) (by omega) (by omega) (by omega) (by omega)) [2, 3] [0, 1] 0 rfl rfl gX6_scale_X0_putWeight rfl ⟨rfl, by decide +kernel⟩ ⟨by decide, by decide⟩ rfl rfl rfl rfl rfl (by decide) rfl (by decide) (by decide) (fun _ h => absurd h List.not_mem_nil) dX6_scale_30 rfl (Nat.le_of_ble_eq_true rfl) ⟨by decide, by decide⟩ (fun r u p_5 => ?_)
      obtain ⟨rfl, rfl⟩ := p_5
      exact g_iret hRet dX6_scale_33 rfl ⟨(wg code), (up wg code v), (by unfold sp_scale; rw [if_neg (by omega)]; exact ⟨rfl, rfl⟩), rfl, rfl⟩
    · refine g_iconst dX6_scale_22 ?_
      exact g_iret hRet dX6_scale_23 rfl ⟨(-1), wg, (by unfold sp_scale; rw [if_pos (by omega)]; exact ⟨rfl, rfl⟩), rfl, rfl⟩
  · refine g_iconst dX6_scale_22 ?_
    exact g_iret hRet dX6_scale_23 rfl ⟨(-1), wg, (by unfold sp_scale; rw [if_pos (by omega)]; exact ⟨rfl, rfl⟩), rfl, rfl⟩

set_option maxHeartbeats 4000000 in
set_option maxRecDepth 100000 in
theorem c_X6_scales (E : Ev) (x0 : Nat) (a1 : Nat) (a3 : Nat) (a4 : Nat) (a5 : Nat) (lo : Int) (ru : Int → Int) (h0 : Nat) (b1 : Nat) (b2 : Nat) (b3 : Nat) (b4 : Nat) (b5 : Nat) (b6 : Nat) (b7 : Nat) (b8 : Nat) (cn : Int) (wg : Int → Int) (what : Int) (hcn : 0 ≤ cn ∧ cn ≤ 200) (hru : (1 ≤ ru 0 ∧ ru 0 ≤ 12) ∧ (1 ≤ ru 1 ∧ ru 1 ≤ 20) ∧ (0 ≤ ru 2 ∧ ru 2 ≤ 10000) ∧ (0 ≤ ru 3 ∧ ru 3 ≤ 10000) ∧ (0 ≤ ru 4 ∧ ru 4 ≤ 1000) ∧ (0 ≤ ru 5 ∧ ru 5 ≤ 500)) (hwg : ∀ k, -4 ≤ wg k ∧ wg k ≤ 10000) (h_what : -2147483648 ≤ what ∧ what ≤ 2147483647) : MI yX6_scales wsX6_scales ({ frames := 2, cells := 0, slots := 0, locals := 47 } : Room) E [] 0 0 [.ref x0, .int (iI what)] [(x0, oo 6 [.ref a1, .ref h0, .ref a3, .ref a4, .ref a5, .int (iI lo)]), (a5, aI E 6 ru), (h0, oo 0 [.int (iI cn), .ref b1, .ref b2, .ref b3, .ref b4, .ref b5, .ref b6, .ref b7, .ref b8]), (b3, aI E 200 wg)] (fun r u => r = iI (f_scales cn wg ru what) ∧ u = [(x0, oo 6 [.ref a1, .ref h0, .ref a3, .ref a4, .ref a5, .int (iI lo)]), (a5, aI E 6 ru), (h0, oo 0 [.int (iI cn), .ref b1, .ref b2, .ref b3, .ref b4, .ref b5, .ref b6, .ref b7, .ref b8]), (b3, aI E 200 wg)]) := by
  refine MI.of (cc := cX6_scales) (maxL := 2) (own := RX6) (by decide) rfl rfl rfl (Nat.le_of_ble_eq_true rfl) [(0, .ref x0), (1, .int (iI what))] rfl ?_
  intro X hin2 hRet
  refine g_iload_n 1 dX6_scales_0 rfl rfl ?_
  rcases (show what = 0 ∨ what = 1 ∨ what = 2 ∨ (what < 0 ∨ 2 < what) by omega) with c_1 | c_1 | c_1 | c_1
  · refine g_tableIn (tgt := 28) (off := 27) (by unfold R32; omega) dX6_scales_1 (by omega) (by rw [c_1]; rfl) rfl ?_
    refine g_aload_n 0 dX6_scales_28 rfl rfl ?_
    refine g_get (C := RX6) (T := TX6) (N := 6) 0 1 (fun _ h => List.mem_cons_of_mem _ (List.mem_append_left _ (List.mem_append_right _ h))) (List.mem_of_getElem? (i := 1) rfl) rfl rfl (by decide) rfl rfl dX6_scales_29 ?_
    refine g_aload_n 0 dX6_scales_32 rfl rfl ?_
    refine g_get (C := RX6) (T := TX6) (N := 6) 0 4 (fun _ h => List.mem_cons_of_mem _ (List.mem_append_left _ (List.mem_append_right _ h))) (List.mem_of_getElem? (i := 2) rfl) rfl rfl (by decide) rfl rfl dX6_scales_33 ?_
    refine g_iconst dX6_scales_36 ?_
    refine g_iald 1 dX6_scales_37 rfl (by decide) (by omega) (by omega) ?_
    refine g_callV_i (n := 1) (As := [.int (iI (ru 2))]) (wr := [(x0, oo 6 [.ref a1, .ref h0, .ref a3, .ref a4, .ref a5, .int (iI lo)]), (a5, aI E 6 ru)]) (C := RX0) [] (c_X0_givenAway E h0 b1 b2 b3 b4 b5 b6 b7 b8 cn wg (ru 2) (by omega) (by omega) (by omega) (by omega)) [2, 3] [0, 1] 0 rfl rfl gX6_scales_X0_givenAway rfl ⟨rfl, by decide +kernel⟩ ⟨by decide, by decide⟩ rfl rfl rfl rfl rfl (by decide) rfl (by decide) (by decide) (fun _ h => absurd h List.not_mem_nil) dX6_scales_38 rfl (Nat.le_of_ble_eq_true rfl) ⟨by decide, by decide⟩ (fun r u p_2 => ?_)
    obtain ⟨x_3, fq, rfl, rfl⟩ := p_2
    exact g_iret hRet dX6_scales_41 rfl ⟨(congrArg iI (by unfold f_scales; (repeat' split) <;> first | rfl | exact fq | (exfalso; omega))), rfl⟩
  · refine g_tableIn (tgt := 42) (off := 41) (by unfold R32; omega) dX6_scales_1 (by omega) (by rw [c_1]; rfl) rfl ?_
    refine g_aload_n 0 dX6_scales_42 rfl rfl ?_
    refine g_get (C := RX6) (T := TX6) (N := 6) 0 1 (fun _ h => List.mem_cons_of_mem _ (List.mem_append_left _ (List.mem_append_right _ h))) (List.mem_of_getElem? (i := 1) rfl) rfl rfl (by decide) rfl rfl dX6_scales_43 ?_
    refine g_aload_n 0 dX6_scales_46 rfl rfl ?_
    refine g_get (C := RX6) (T := TX6) (N := 6) 0 4 (fun _ h => List.mem_cons_of_mem _ (List.mem_append_left _ (List.mem_append_right _ h))) (List.mem_of_getElem? (i := 2) rfl) rfl rfl (by decide) rfl rfl dX6_scales_47 ?_
    refine g_iconst dX6_scales_50 ?_
    refine g_iald 1 dX6_scales_51 rfl (by decide) (by omega) (by omega) ?_
    refine g_aload_n 0 dX6_scales_52 rfl rfl ?_
    refine g_get (C := RX6) (T := TX6) (N := 6) 0 4 (fun _ h => List.mem_cons_of_mem _ (List.mem_append_left _ (List.mem_append_right _ h))) (List.mem_of_getElem? (i := 2) rfl) rfl rfl (by decide) rfl rfl dX6_scales_53 ?_
    refine g_iconst dX6_scales_56 ?_
    refine g_iald 1 dX6_scales_57 rfl (by decide) (by omega) (by omega) ?_
    refine g_isub dX6_scales_58 ?_
    refine g_callV_i (n := 1) (As := [.int (iI ((ru 2) - (ru 4)))]) (wr := [(x0, oo 6 [.ref a1, .ref h0, .ref a3, .ref a4, .ref a5, .int (iI lo)]), (a5, aI E 6 ru)]) (C := RX0) [] (c_X0_lighterThan E h0 b1 b2 b3 b4 b5 b6 b7 b8 cn wg ((ru 2) - (ru 4)) (by omega) (by omega) (by omega)) [2, 3] [0, 1] 0 rfl rfl gX6_scales_X0_lighterThan rfl ⟨rfl, by decide +kernel⟩ ⟨by decide, by decide⟩ rfl rfl rfl rfl rfl (by decide) rfl (by decide) (by decide) (fun _ h => absurd h List.not_mem_nil) dX6_scales_59 rfl (Nat.le_of_ble_eq_true rfl) ⟨by decide, by decide⟩ (fun r u p_4 => ?_)
    obtain ⟨x_5, fq, rfl, rfl⟩ := p_4
    exact g_iret hRet dX6_scales_62 rfl ⟨(congrArg iI (by unfold f_scales; (repeat' split) <;> first | rfl | exact fq | (exfalso; omega))), rfl⟩
  · refine g_tableIn (tgt := 63) (off := 62) (by unfold R32; omega) dX6_scales_1 (by omega) (by rw [c_1]; rfl) rfl ?_
    refine g_aload_n 0 dX6_scales_63 rfl rfl ?_
    refine g_get (C := RX6) (T := TX6) (N := 6) 0 1 (fun _ h => List.mem_cons_of_mem _ (List.mem_append_left _ (List.mem_append_right _ h))) (List.mem_of_getElem? (i := 1) rfl) rfl rfl (by decide) rfl rfl dX6_scales_64 ?_
    refine g_callV_i (n := 0) (As := []) (wr := [(x0, oo 6 [.ref a1, .ref h0, .ref a3, .ref a4, .ref a5, .int (iI lo)]), (a5, aI E 6 ru)]) (C := RX0) [] (c_X0_weighed E h0 b1 b2 b3 b4 b5 b6 b7 b8 cn wg (by omega) (by omega)) [2, 3] [0, 1] 0 rfl rfl gX6_scales_X0_weighed rfl ⟨rfl, by decide +kernel⟩ ⟨by decide, by decide⟩ rfl rfl rfl rfl rfl (by decide) rfl (by decide) (by decide) (fun _ h => absurd h List.not_mem_nil) dX6_scales_67 rfl (Nat.le_of_ble_eq_true rfl) ⟨by decide, by decide⟩ (fun r u p_6 => ?_)
    obtain ⟨x_7, fq, rfl, rfl⟩ := p_6
    exact g_iret hRet dX6_scales_70 rfl ⟨(congrArg iI (by unfold f_scales; (repeat' split) <;> first | rfl | exact fq | (exfalso; omega))), rfl⟩
  · refine g_tableOut (tgt := 71) (by unfold R32; omega) dX6_scales_1 c_1 rfl ?_
    refine g_iconst dX6_scales_71 ?_
    exact g_iret hRet dX6_scales_72 rfl ⟨(congrArg iI (by unfold f_scales; (repeat' split) <;> first | rfl | exact fq | (exfalso; omega))), rfl⟩

set_option maxHeartbeats 4000000 in
set_option maxRecDepth 100000 in
theorem c_X6_lot (E : Ev) (x0 : Nat) (a1 : Nat) (a3 : Nat) (a4 : Nat) (a5 : Nat) (lo : Int) (ru : Int → Int) (h0 : Nat) (b1 : Nat) (b2 : Nat) (b3 : Nat) (b4 : Nat) (b5 : Nat) (b6 : Nat) (b7 : Nat) (b8 : Nat) (cn : Int) (v : Int) (hcn : 0 ≤ cn ∧ cn ≤ 200) (hru : (1 ≤ ru 0 ∧ ru 0 ≤ 12) ∧ (1 ≤ ru 1 ∧ ru 1 ≤ 20) ∧ (0 ≤ ru 2 ∧ ru 2 ≤ 10000) ∧ (0 ≤ ru 3 ∧ ru 3 ≤ 10000) ∧ (0 ≤ ru 4 ∧ ru 4 ≤ 1000) ∧ (0 ≤ ru 5 ∧ ru 5 ≤ 500)) (h_v : -2147483648 ≤ v ∧ v ≤ 2147483647) : MI yX6_lot wsX6_lot ({ frames := 1, cells := 0, slots := 0, locals := 22 } : Room) E [] 0 0 [.ref x0, .int (iI v)] [(x0, oo 6 [.ref a1, .ref h0, .ref a3, .ref a4, .ref a5, .int (iI lo)]), (a5, aI E 6 ru), (h0, oo 0 [.int (iI cn), .ref b1, .ref b2, .ref b3, .ref b4, .ref b5, .ref b6, .ref b7, .ref b8])] (fun r u => ∃ (x : Int), ∃ (lo' : Int), sp_lot lo v x lo' ∧ r = iI x ∧ u = [(x0, oo 6 [.ref a1, .ref h0, .ref a3, .ref a4, .ref a5, .int (iI lo')]), (a5, aI E 6 ru), (h0, oo 0 [.int (iI cn), .ref b1, .ref b2, .ref b3, .ref b4, .ref b5, .ref b6, .ref b7, .ref b8])]) := by
  refine MI.of (cc := cX6_lot) (maxL := 3) (own := RX6) (by decide) rfl rfl rfl (Nat.le_of_ble_eq_true rfl) [(0, .ref x0), (1, .int (iI v))] rfl ?_
  intro X hin2 hRet
  refine g_iload_n 1 dX6_lot_0 rfl rfl ?_
  refine g_iconst dX6_lot_1 ?_
  refine g_bipush dX6_lot_2 rfl ?_
  refine g_callS_i (n := 3) (As := [.int (iI v), .int (iI 0), .int (iI 15)]) (wr := [(x0, oo 6 [.ref a1, .ref h0, .ref a3, .ref a4, .ref a5, .int (iI lo)]), (a5, aI E 6 ru), (h0, oo 0 [.int (iI cn), .ref b1, .ref b2, .ref b3, .ref b4, .ref b5, .ref b6, .ref b7, .ref b8])]) [] (c_X6_within E v 0 15 (by omega) (by omega) (by omega)) [] [0, 1, 2] gX6_lot_X6_within rfl ⟨rfl, by decide +kernel⟩ ⟨by decide, by decide⟩ rfl rfl rfl rfl rfl (by decide) rfl (by decide) (by decide) (fun _ h => absurd h List.not_mem_nil) dX6_lot_4 rfl (Nat.le_of_ble_eq_true rfl) ⟨by decide, by decide⟩ (fun r u p_1 => ?_)
  obtain ⟨rfl, rfl⟩ := p_1
  refine g_perm (ws1 := [(x0, oo 6 [.ref a1, .ref h0, .ref a3, .ref a4, .ref a5, .int (iI lo)]), (a5, aI E 6 ru), (h0, oo 0 [.int (iI cn), .ref b1, .ref b2, .ref b3, .ref b4, .ref b5, .ref b6, .ref b7, .ref b8])]) [0, 1, 2] rfl (by decide) rfl ?_
  refine g_if_ne_b (tgt := 12) dX6_lot_7 rfl (fun c_2 => ?_) (fun c_2 => ?_)
  · refine g_aload_n 0 dX6_lot_12 rfl rfl ?_
    refine g_get (C := RX6) (T := TX6) (N := 6) 0 5 (fun _ h => List.mem_cons_of_mem _ (List.mem_append_right _ h)) (List.mem_of_getElem? (i := 1) rfl) rfl rfl (by decide) rfl rfl dX6_lot_13 ?_
    refine g_istore_n (lv1 := [(2, .int (iI lo)), (0, .ref x0), (1, .int (iI v))]) dX6_lot_16 rfl (by decide) rfl ?_
    refine g_aload_n 1 dX6_lot_17 rfl rfl ?_
    refine g_iload_n 2 dX6_lot_18 rfl rfl ?_
    refine g_put (C := RX6) (T := TX6) (N := 6) (ws1 := [(x0, oo 6 [.ref a1, .ref h0, .ref a3, .ref a4, .ref a5, .int (iI v)]), (a5, aI E 6 ru), (h0, oo 0 [.int (iI cn), .ref b1, .ref b2, .ref b3, .ref b4, .ref b5, .ref b6, .ref b7, .ref b8])]) 0 5 (fun _ h => List.mem_cons_of_mem _ (List.mem_append_right _ h)) tyX6 tyX6_ok nmX6 (List.mem_of_getElem? (i := 1) rfl) rfl rfl (by decide) rfl (tyX6_ok 5 (by decide)) rfl rfl (by first | decide | exact Nat.le_of_ble_eq_true rfl) dX6_lot_19 rfl rfl ?_
    refine g_iload_n 0 dX6_lot_22 rfl rfl ?_
    exact g_iret hRet dX6_lot_23 rfl ⟨lo, v, (by unfold sp_lot; rw [if_neg (by omega)]; exact ⟨rfl, rfl⟩), rfl, rfl⟩
  · refine g_iconst dX6_lot_10 ?_
    exact g_iret hRet dX6_lot_11 rfl ⟨(-1), lo, (by unfold sp_lot; rw [if_pos (by omega)]; exact ⟨rfl, rfl⟩), rfl, rfl⟩

set_option maxHeartbeats 4000000 in
set_option maxRecDepth 100000 in
theorem c_X6_rule (E : Ev) (x0 : Nat) (a1 : Nat) (a3 : Nat) (a4 : Nat) (a5 : Nat) (lo : Int) (ru : Int → Int) (h0 : Nat) (b1 : Nat) (b2 : Nat) (b3 : Nat) (b4 : Nat) (b5 : Nat) (b6 : Nat) (b7 : Nat) (b8 : Nat) (cn : Int) (un : Int → Int) (on : Int → Int) (what : Int) (v : Int) (t1 : Nat) (t2 : Nat) (hcn : 0 ≤ cn ∧ cn ≤ 200) (hru : (1 ≤ ru 0 ∧ ru 0 ≤ 12) ∧ (1 ≤ ru 1 ∧ ru 1 ≤ 20) ∧ (0 ≤ ru 2 ∧ ru 2 ≤ 10000) ∧ (0 ≤ ru 3 ∧ ru 3 ≤ 10000) ∧ (0 ≤ ru 4 ∧ ru 4 ≤ 1000) ∧ (0 ≤ ru 5 ∧ ru 5 ≤ 500)) (hun : ∀ k, 0 ≤ un k ∧ un k ≤ 200) (hon : ∀ k, 0 ≤ on k ∧ on k ≤ 30) (h_what : -2147483648 ≤ what ∧ what ≤ 2147483647) (h_v : -2147483648 ≤ v ∧ v ≤ 2147483647) : MI yX6_rule wsX6_rule ({ frames := 2, cells := 0, slots := 0, locals := 46 } : Room) E [(t1, "CaseLine", "RULE_LEAST", 6, ruLo), (t2, "CaseLine", "RULE_MOST", 6, ruHi)] 0 0 [.ref x0, .int (iI what), .int (iI v)] [(x0, oo 6 [.ref a1, .ref h0, .ref a3, .ref a4, .ref a5, .int (iI lo)]), (a5, aI E 6 ru), (h0, oo 0 [.int (iI cn), .ref b1, .ref b2, .ref b3, .ref b4, .ref b5, .ref b6, .ref b7, .ref b8]), (b4, aI E 30 un), (b7, aI E 6 on)] (fun r u => ∃ (x : Int), ∃ (ru' : Int → Int), sp_rule un on ru what v x ru' ∧ r = iI x ∧ u = [(x0, oo 6 [.ref a1, .ref h0, .ref a3, .ref a4, .ref a5, .int (iI lo)]), (a5, aI E 6 ru'), (h0, oo 0 [.int (iI cn), .ref b1, .ref b2, .ref b3, .ref b4, .ref b5, .ref b6, .ref b7, .ref b8]), (b4, aI E 30 un), (b7, aI E 6 on)]) := by
  refine MI.of (cc := cX6_rule) (maxL := 4) (own := RX6) (by decide) rfl rfl rfl (Nat.le_of_ble_eq_true rfl) [(0, .ref x0), (1, .int (iI what)), (2, .int (iI v))] rfl ?_
  intro X hin2 hRet
  refine g_iload_n 1 dX6_rule_0 rfl rfl ?_
  refine g_iconst dX6_rule_1 ?_
  refine g_iconst dX6_rule_2 ?_
  refine g_callS_i (n := 3) (As := [.int (iI what), .int (iI 0), .int (iI 5)]) (wr := [(x0, oo 6 [.ref a1, .ref h0, .ref a3, .ref a4, .ref a5, .int (iI lo)]), (a5, aI E 6 ru), (h0, oo 0 [.int (iI cn), .ref b1, .ref b2, .ref b3, .ref b4, .ref b5, .ref b6, .ref b7, .ref b8]), (b4, aI E 30 un), (b7, aI E 6 on)]) [] (c_X6_within E what 0 5 (by omega) (by omega) (by omega)) [] [0, 1, 2, 3, 4] gX6_rule_X6_within rfl ⟨rfl, by decide +kernel⟩ ⟨by decide, by decide⟩ rfl rfl rfl rfl rfl (by decide) rfl (by decide) (by decide) (fun _ h => absurd h List.not_mem_nil) dX6_rule_3 rfl (Nat.le_of_ble_eq_true rfl) ⟨by decide, by decide⟩ (fun r u p_1 => ?_)
  obtain ⟨rfl, rfl⟩ := p_1
  refine g_perm (ws1 := [(x0, oo 6 [.ref a1, .ref h0, .ref a3, .ref a4, .ref a5, .int (iI lo)]), (a5, aI E 6 ru), (h0, oo 0 [.int (iI cn), .ref b1, .ref b2, .ref b3, .ref b4, .ref b5, .ref b6, .ref b7, .ref b8]), (b4, aI E 30 un), (b7, aI E 6 on)]) [0, 1, 2, 3, 4] rfl (by decide) rfl ?_
  refine g_if_eq_b (tgt := 26) dX6_rule_6 rfl (fun c_2 => ?_) (fun c_2 => ?_)
  · refine g_iload_n 2 dX6_rule_9 rfl rfl ?_
    refine g_gets (List.mem_of_getElem? (i := 0) rfl) (List.mem_of_getElem? (i := 1) rfl) dX6_rule_10 ?_
    refine g_iload_n 1 dX6_rule_13 rfl rfl ?_
    refine g_zs (List.mem_of_getElem? (i := 0) rfl) dX6_rule_14 (by decide) (by omega) (by omega) ?_
    refine g_gets (List.mem_of_getElem? (i := 1) rfl) (List.mem_of_getElem? (i := 2) rfl) dX6_rule_15 ?_
    refine g_iload_n 1 dX6_rule_18 rfl rfl ?_
    refine g_zs (List.mem_of_getElem? (i := 1) rfl) dX6_rule_19 (by decide) (by omega) (by omega) ?_
    have q1 := ruLo_b what
    have q2 := ruHi_b what
    refine g_callS_i (n := 3) (As := [.int (iI v), .int (iI (ruLo what)), .int (iI (ruHi what))]) (wr := [(x0, oo 6 [.ref a1, .ref h0, .ref a3, .ref a4, .ref a5, .int (iI lo)]), (a5, aI E 6 ru), (h0, oo 0 [.int (iI cn), .ref b1, .ref b2, .ref b3, .ref b4, .ref b5, .ref b6, .ref b7, .ref b8]), (b4, aI E 30 un), (b7, aI E 6 on)]) [] (c_X6_within E v (ruLo what) (ruHi what) (by omega) (by omega) (by omega)) [] [0, 1, 2, 3, 4] gX6_rule_X6_within rfl ⟨rfl, by decide +kernel⟩ ⟨by decide, by decide⟩ rfl rfl rfl rfl rfl (by decide) rfl (by decide) (by decide) (fun _ h => absurd h List.not_mem_nil) dX6_rule_20 rfl (Nat.le_of_ble_eq_true rfl) ⟨by decide, by decide⟩ (fun r u p_3 => ?_)
    obtain ⟨rfl, rfl⟩ := p_3
    refine g_perm (ws1 := [(x0, oo 6 [.ref a1, .ref h0, .ref a3, .ref a4, .ref a5, .int (iI lo)]), (a5, aI E 6 ru), (h0, oo 0 [.int (iI cn), .ref b1, .ref b2, .ref b3, .ref b4, .ref b5, .ref b6, .ref b7, .ref b8]), (b4, aI E 30 un), (b7, aI E 6 on)]) [0, 1, 2, 3, 4] rfl (by decide) rfl ?_
    refine g_if_ne_b (tgt := 28) dX6_rule_23 rfl (fun c_4 => ?_) (fun c_4 => ?_)
    · refine g_iload_n 1 dX6_rule_28 rfl rfl ?_
      refine g_if_ne (tgt := 43) (by unfold R32; omega) dX6_rule_29 rfl (fun c_5 => ?_) (fun c_5 => ?_)
      · refine g_aload_n 0 dX6_rule_32 rfl rfl ?_
        refine g_get (C := RX6) (T := TX6) (N := 6) 0 1 (fun _ h => List.mem_cons_of_mem _ (List.mem_append_left _ (List.mem_append_right _ h))) (List.mem_of_getElem? (i := 3) rfl) rfl rfl (by decide) rfl rfl dX6_rule_33 ?_
        refine g_callV_i (n := 0) (As := []) (wr := [(x0, oo 6 [.ref a1, .ref h0, .ref a3, .ref a4, .ref a5, .int (iI lo)]), (a5, aI E 6 ru), (b7, aI E 6 on)]) (C := RX0) [] (c_X0_fullestCase E h0 b1 b2 b3 b4 b5 b6 b7 b8 cn un (by omega) (by omega)) [2, 3] [0, 1, 4] 0 rfl rfl gX6_rule_X0_fullestCase rfl ⟨rfl, by decide +kernel⟩ ⟨by decide, by decide⟩ rfl rfl rfl rfl rfl (by decide) rfl (by decide) (by decide) (fun _ h => absurd h List.not_mem_nil) dX6_rule_36 rfl (Nat.le_of_ble_eq_true rfl) ⟨by decide, by decide⟩ (fun r u p_6 => ?_)
        obtain ⟨x_7, ⟨f1, f2, f3, f4⟩, rfl, rfl⟩ := p_6
        refine g_perm (ws1 := [(x0, oo 6 [.ref a1, .ref h0, .ref a3, .ref a4, .ref a5, .int (iI lo)]), (a5, aI E 6 ru), (h0, oo 0 [.int (iI cn), .ref b1, .ref b2, .ref b3, .ref b4, .ref b5, .ref b6, .ref b7, .ref b8]), (b4, aI E 30 un), (b7, aI E 6 on)]) [0, 1, 3, 4, 2] rfl (by decide) rfl ?_
        refine g_iload_n 2 dX6_rule_39 rfl rfl ?_
        refine g_icmp_gt (tgt := 59) (by unfold R32; omega) (by unfold R32; omega) dX6_rule_40 rfl (fun c_8 => ?_) (fun c_8 => ?_)
        · refine g_bipush dX6_rule_59 rfl ?_
          exact g_iret hRet dX6_rule_61 rfl ⟨(-2), ru, (by right; left; refine ⟨by omega, ?_, rfl, rfl⟩; first | (left; refine ⟨by omega, ?_⟩; rcases f4 with e | ⟨c, e1, e2, e3⟩; (exfalso; omega); exact ⟨c, e1, e2, by omega⟩) | (right; refine ⟨by omega, ?_⟩; rcases g4 with e | ⟨c, e1, e2, e3⟩; (exfalso; omega); exact ⟨c, e1, e2, by omega⟩)), rfl, rfl⟩
        · refine g_iload_n 1 dX6_rule_43 rfl rfl ?_
          refine g_iconst dX6_rule_44 ?_
          refine g_icmp_ne (tgt := 62) (by unfold R32; omega) (by unfold R32; omega) dX6_rule_45 rfl (fun c_9 => ?_) (fun c_9 => ?_)
          · refine g_aload_n 0 dX6_rule_48 rfl rfl ?_
            refine g_get (C := RX6) (T := TX6) (N := 6) 0 1 (fun _ h => List.mem_cons_of_mem _ (List.mem_append_left _ (List.mem_append_right _ h))) (List.mem_of_getElem? (i := 3) rfl) rfl rfl (by decide) rfl rfl dX6_rule_49 ?_
            refine g_callV_i (n := 0) (As := []) (wr := [(x0, oo 6 [.ref a1, .ref h0, .ref a3, .ref a4, .ref a5, .int (iI lo)]), (a5, aI E 6 ru), (b4, aI E 30 un)]) (C := RX0) [] (c_X0_fullestPallet E h0 b1 b2 b3 b4 b5 b6 b7 b8 cn on (by omega) (by omega)) [2, 4] [0, 1, 3] 0 rfl rfl gX6_rule_X0_fullestPallet rfl ⟨rfl, by decide +kernel⟩ ⟨by decide, by decide⟩ rfl rfl rfl rfl rfl (by decide) rfl (by decide) (by decide) (fun _ h => absurd h List.not_mem_nil) dX6_rule_52 rfl (Nat.le_of_ble_eq_true rfl) ⟨by decide, by decide⟩ (fun r u p_10 => ?_)
            obtain ⟨x_11, ⟨g1, g2, g3, g4⟩, rfl, rfl⟩ := p_10
            refine g_perm (ws1 := [(x0, oo 6 [.ref a1, .ref h0, .ref a3, .ref a4, .ref a5, .int (iI lo)]), (a5, aI E 6 ru), (h0, oo 0 [.int (iI cn), .ref b1, .ref b2, .ref b3, .ref b4, .ref b5, .ref b6, .ref b7, .ref b8]), (b4, aI E 30 un), (b7, aI E 6 on)]) [0, 1, 3, 2, 4] rfl (by decide) rfl ?_
            refine g_iload_n 2 dX6_rule_55 rfl rfl ?_
            refine g_icmp_le (tgt := 62) (by unfold R32; omega) (by unfold R32; omega) dX6_rule_56 rfl (fun c_12 => ?_) (fun c_12 => ?_)
            · refine g_aload_n 0 dX6_rule_62 rfl rfl ?_
              refine g_get (C := RX6) (T := TX6) (N := 6) 0 4 (fun _ h => List.mem_cons_of_mem _ (List.mem_append_left _ (List.mem_append_right _ h))) (List.mem_of_getElem? (i := 4) rfl) rfl rfl (by decide) rfl rfl dX6_rule_63 ?_
              refine g_iload_n 1 dX6_rule_66 rfl rfl ?_
              refine g_iald 1 dX6_rule_67 rfl (by decide) (by omega) (by omega) ?_
              refine g_istore_n (lv1 := [(3, .int (iI (ru what))), (0, .ref x0), (1, .int (iI what)), (2, .int (iI v))]) dX6_rule_68 rfl (by decide) rfl ?_
              refine g_aload_n 1 dX6_rule_69 rfl rfl ?_
              refine g_get (C := RX6) (T := TX6) (N := 6) 0 4 (fun _ h => List.mem_cons_of_mem _ (List.mem_append_left _ (List.mem_append_right _ h))) (List.mem_of_getElem? (i := 4) rfl) rfl rfl (by decide) rfl rfl dX6_rule_70 ?_
              refine g_iload_n 2 dX6_rule_73 rfl rfl ?_
              refine g_iload_n 3 dX6_rule_74 rfl rfl ?_
              refine g_iast (ws1 := [(x0, oo 6 [.ref a1, .ref h0, .ref a3, .ref a4, .ref a5, .int (iI lo)]), (a5, aI E 6 (up ru what v)), (h0, oo 0 [.int (iI cn), .ref b1, .ref b2, .ref b3, .ref b4, .ref b5, .ref b6, .ref b7, .ref b8]), (b4, aI E 30 un), (b7, aI E 6 on)]) 1 dX6_rule_75 rfl rfl (by decide) (by omega) (by omega) ?_
              refine g_iload_n 0 dX6_rule_76 rfl rfl ?_
              exact g_iret hRet dX6_rule_77 rfl ⟨(ru what), (up ru what v), (by right; right; refine ⟨by omega, fun e => ?_, fun e => ?_, rfl, rfl⟩; (first | (exfalso; omega) | (intro c c1 c2; have := f1 c c1 c2; omega)); (first | (exfalso; omega) | (intro c c1 c2; have := g1 c c1 c2; omega))), rfl, rfl⟩
            · refine g_bipush dX6_rule_59 rfl ?_
              exact g_iret hRet dX6_rule_61 rfl ⟨(-2), ru, (by right; left; refine ⟨by omega, ?_, rfl, rfl⟩; first | (left; refine ⟨by omega, ?_⟩; rcases f4 with e | ⟨c, e1, e2, e3⟩; (exfalso; omega); exact ⟨c, e1, e2, by omega⟩) | (right; refine ⟨by omega, ?_⟩; rcases g4 with e | ⟨c, e1, e2, e3⟩; (exfalso; omega); exact ⟨c, e1, e2, by omega⟩)), rfl, rfl⟩
          · refine g_aload_n 0 dX6_rule_62 rfl rfl ?_
            refine g_get (C := RX6) (T := TX6) (N := 6) 0 4 (fun _ h => List.mem_cons_of_mem _ (List.mem_append_left _ (List.mem_append_right _ h))) (List.mem_of_getElem? (i := 4) rfl) rfl rfl (by decide) rfl rfl dX6_rule_63 ?_
            refine g_iload_n 1 dX6_rule_66 rfl rfl ?_
            refine g_iald 1 dX6_rule_67 rfl (by decide) (by omega) (by omega) ?_
            refine g_istore_n (lv1 := [(3, .int (iI (ru what))), (0, .ref x0), (1, .int (iI what)), (2, .int (iI v))]) dX6_rule_68 rfl (by decide) rfl ?_
            refine g_aload_n 1 dX6_rule_69 rfl rfl ?_
            refine g_get (C := RX6) (T := TX6) (N := 6) 0 4 (fun _ h => List.mem_cons_of_mem _ (List.mem_append_left _ (List.mem_append_right _ h))) (List.mem_of_getElem? (i := 4) rfl) rfl rfl (by decide) rfl rfl dX6_rule_70 ?_
            refine g_iload_n 2 dX6_rule_73 rfl rfl ?_
            refine g_iload_n 3 dX6_rule_74 rfl rfl ?_
            refine g_iast (ws1 := [(x0, oo 6 [.ref a1, .ref h0, .ref a3, .ref a4, .ref a5, .int (iI lo)]), (a5, aI E 6 (up ru what v)), (h0, oo 0 [.int (iI cn), .ref b1, .ref b2, .ref b3, .ref b4, .ref b5, .ref b6, .ref b7, .ref b8]), (b4, aI E 30 un), (b7, aI E 6 on)]) 1 dX6_rule_75 rfl rfl (by decide) (by omega) (by omega) ?_
            refine g_iload_n 0 dX6_rule_76 rfl rfl ?_
            exact g_iret hRet dX6_rule_77 rfl ⟨(ru what), (up ru what v), (by right; right; refine ⟨by omega, fun e => ?_, fun e => ?_, rfl, rfl⟩; (first | (exfalso; omega) | (intro c c1 c2; have := f1 c c1 c2; omega)); (first | (exfalso; omega) | (intro c c1 c2; have := g1 c c1 c2; omega))), rfl, rfl⟩
      · refine g_iload_n 1 dX6_rule_43 rfl rfl ?_
        refine g_iconst dX6_rule_44 ?_
        refine g_icmp_ne (tgt := 62) (by unfold R32; omega) (by unfold R32; omega) dX6_rule_45 rfl (fun c_13 => ?_) (fun c_13 => ?_)
        · refine g_aload_n 0 dX6_rule_48 rfl rfl ?_
          refine g_get (C := RX6) (T := TX6) (N := 6) 0 1 (fun _ h => List.mem_cons_of_mem _ (List.mem_append_left _ (List.mem_append_right _ h))) (List.mem_of_getElem? (i := 3) rfl) rfl rfl (by decide) rfl rfl dX6_rule_49 ?_
          refine g_callV_i (n := 0) (As := []) (wr := [(x0, oo 6 [.ref a1, .ref h0, .ref a3, .ref a4, .ref a5, .int (iI lo)]), (a5, aI E 6 ru), (b4, aI E 30 un)]) (C := RX0) [] (c_X0_fullestPallet E h0 b1 b2 b3 b4 b5 b6 b7 b8 cn on (by omega) (by omega)) [2, 4] [0, 1, 3] 0 rfl rfl gX6_rule_X0_fullestPallet rfl ⟨rfl, by decide +kernel⟩ ⟨by decide, by decide⟩ rfl rfl rfl rfl rfl (by decide) rfl (by decide) (by decide) (fun _ h => absurd h List.not_mem_nil) dX6_rule_52 rfl (Nat.le_of_ble_eq_true rfl) ⟨by decide, by decide⟩ (fun r u p_14 => ?_)
          obtain ⟨x_15, ⟨g1, g2, g3, g4⟩, rfl, rfl⟩ := p_14
          refine g_perm (ws1 := [(x0, oo 6 [.ref a1, .ref h0, .ref a3, .ref a4, .ref a5, .int (iI lo)]), (a5, aI E 6 ru), (h0, oo 0 [.int (iI cn), .ref b1, .ref b2, .ref b3, .ref b4, .ref b5, .ref b6, .ref b7, .ref b8]), (b4, aI E 30 un), (b7, aI E 6 on)]) [0, 1, 3, 2, 4] rfl (by decide) rfl ?_
          refine g_iload_n 2 dX6_rule_55 rfl rfl ?_
          refine g_icmp_le (tgt := 62) (by unfold R32; omega) (by unfold R32; omega) dX6_rule_56 rfl (fun c_16 => ?_) (fun c_16 => ?_)
          · refine g_aload_n 0 dX6_rule_62 rfl rfl ?_
            refine g_get (C := RX6) (T := TX6) (N := 6) 0 4 (fun _ h => List.mem_cons_of_mem _ (List.mem_append_left _ (List.mem_append_right _ h))) (List.mem_of_getElem? (i := 4) rfl) rfl rfl (by decide) rfl rfl dX6_rule_63 ?_
            refine g_iload_n 1 dX6_rule_66 rfl rfl ?_
            refine g_iald 1 dX6_rule_67 rfl (by decide) (by omega) (by omega) ?_
            refine g_istore_n (lv1 := [(3, .int (iI (ru what))), (0, .ref x0), (1, .int (iI what)), (2, .int (iI v))]) dX6_rule_68 rfl (by decide) rfl ?_
            refine g_aload_n 1 dX6_rule_69 rfl rfl ?_
            refine g_get (C := RX6) (T := TX6) (N := 6) 0 4 (fun _ h => List.mem_cons_of_mem _ (List.mem_append_left _ (List.mem_append_right _ h))) (List.mem_of_getElem? (i := 4) rfl) rfl rfl (by decide) rfl rfl dX6_rule_70 ?_
            refine g_iload_n 2 dX6_rule_73 rfl rfl ?_
            refine g_iload_n 3 dX6_rule_74 rfl rfl ?_
            refine g_iast (ws1 := [(x0, oo 6 [.ref a1, .ref h0, .ref a3, .ref a4, .ref a5, .int (iI lo)]), (a5, aI E 6 (up ru what v)), (h0, oo 0 [.int (iI cn), .ref b1, .ref b2, .ref b3, .ref b4, .ref b5, .ref b6, .ref b7, .ref b8]), (b4, aI E 30 un), (b7, aI E 6 on)]) 1 dX6_rule_75 rfl rfl (by decide) (by omega) (by omega) ?_
            refine g_iload_n 0 dX6_rule_76 rfl rfl ?_
            exact g_iret hRet dX6_rule_77 rfl ⟨(ru what), (up ru what v), (by right; right; refine ⟨by omega, fun e => ?_, fun e => ?_, rfl, rfl⟩; (first | (exfalso; omega) | (intro c c1 c2; have := f1 c c1 c2; omega)); (first | (exfalso; omega) | (intro c c1 c2; have := g1 c c1 c2; omega))), rfl, rfl⟩
          · refine g_bipush dX6_rule_59 rfl ?_
            exact g_iret hRet dX6_rule_61 rfl ⟨(-2), ru, (by right; left; refine ⟨by omega, ?_, rfl, rfl⟩; first | (left; refine ⟨by omega, ?_⟩; rcases f4 with e | ⟨c, e1, e2, e3⟩; (exfalso; omega); exact ⟨c, e1, e2, by omega⟩) | (right; refine ⟨by omega, ?_⟩; rcases g4 with e | ⟨c, e1, e2, e3⟩; (exfalso; omega); exact ⟨c, e1, e2, by omega⟩)), rfl, rfl⟩
        · refine g_aload_n 0 dX6_rule_62 rfl rfl ?_
          refine g_get (C := RX6) (T := TX6) (N := 6) 0 4 (fun _ h => List.mem_cons_of_mem _ (List.mem_append_left _ (List.mem_append_right _ h))) (List.mem_of_getElem? (i := 4) rfl) rfl rfl (by decide) rfl rfl dX6_rule_63 ?_
          refine g_iload_n 1 dX6_rule_66 rfl rfl ?_
          refine g_iald 1 dX6_rule_67 rfl (by decide) (by omega) (by omega) ?_
          refine g_istore_n (lv1 := [(3, .int (iI (ru what))), (0, .ref x0), (1, .int (iI what)), (2, .int (iI v))]) dX6_rule_68 rfl (by decide) rfl ?_
          refine g_aload_n 1 dX6_rule_69 rfl rfl ?_
          refine g_get (C := RX6) (T := TX6) (N := 6) 0 4 (fun _ h => List.mem_cons_of_mem _ (List.mem_append_left _ (List.mem_append_right _ h))) (List.mem_of_getElem? (i := 4) rfl) rfl rfl (by decide) rfl rfl dX6_rule_70 ?_
          refine g_iload_n 2 dX6_rule_73 rfl rfl ?_
          refine g_iload_n 3 dX6_rule_74 rfl rfl ?_
          refine g_iast (ws1 := [(x0, oo 6 [.ref a1, .ref h0, .ref a3, .ref a4, .ref a5, .int (iI lo)]), (a5, aI E 6 (up ru what v)), (h0, oo 0 [.int (iI cn), .ref b1, .ref b2, .ref b3, .ref b4, .ref b5, .ref b6, .ref b7, .ref b8]), (b4, aI E 30 un), (b7, aI E 6 on)]) 1 dX6_rule_75 rfl rfl (by decide) (by omega) (by omega) ?_
          refine g_iload_n 0 dX6_rule_76 rfl rfl ?_
          exact g_iret hRet dX6_rule_77 rfl ⟨(ru what), (up ru what v), (by right; right; refine ⟨by omega, fun e => ?_, fun e => ?_, rfl, rfl⟩; (first | (exfalso; omega) | (intro c c1 c2; have := f1 c c1 c2; omega)); (first | (exfalso; omega) | (intro c c1 c2; have := g1 c c1 c2; omega))), rfl, rfl⟩
    · refine g_iconst dX6_rule_26 ?_
      exact g_iret hRet dX6_rule_27 rfl ⟨(-1), ru, (by left; exact ⟨by omega, rfl, rfl⟩), rfl, rfl⟩
  · refine g_iconst dX6_rule_26 ?_
    exact g_iret hRet dX6_rule_27 rfl ⟨(-1), ru, (by left; exact ⟨by omega, rfl, rfl⟩), rfl, rfl⟩

end FACE1
