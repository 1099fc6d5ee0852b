section CODES
set_option maxHeartbeats 4000000 in
set_option maxRecDepth 100000 in
theorem c_X6_within (E : Ev) (v : Int) (lo : Int) (hi : Int) (hv : -2147483648 ≤ v ∧ v ≤ 2147483647) (hlo : -2147483648 ≤ lo ∧ lo ≤ 2147483647) (hhi : -2147483648 ≤ hi ∧ hi ≤ 2147483647) : MI yX6_within wsX6_within ({ frames := 0, cells := 0, slots := 0, locals := 0 } : Room) E [] 0 0 [.int (iI v), .int (iI lo), .int (iI hi)] [] (fun r u => r = iI (bI (lo ≤ v ∧ v ≤ hi)) ∧ u = []) := by
  refine MI.of (cc := cX6_within) (maxL := 3) (own := RX6) (by decide) rfl rfl rfl (Nat.le_of_ble_eq_true rfl) [(0, .int (iI v)), (1, .int (iI lo)), (2, .int (iI hi))] rfl ?_
  intro X hin2 hRet
  refine g_iload_n 1 dX6_within_0 rfl rfl ?_
  refine g_iload_n 0 dX6_within_1 rfl rfl ?_
  refine g_icmp_gt (tgt := 14) (by unfold R32; omega) (by unfold R32; omega) dX6_within_2 rfl (fun c_1 => ?_) (fun c_1 => ?_)
  · refine g_iconst dX6_within_14 ?_
    exact g_iret hRet dX6_within_15 rfl ⟨(bI_f (by omega)), rfl⟩
  · refine g_iload_n 0 dX6_within_5 rfl rfl ?_
    refine g_iload_n 2 dX6_within_6 rfl rfl ?_
    refine g_icmp_gt (tgt := 14) (by unfold R32; omega) (by unfold R32; omega) dX6_within_7 rfl (fun c_2 => ?_) (fun c_2 => ?_)
    · refine g_iconst dX6_within_14 ?_
      exact g_iret hRet dX6_within_15 rfl ⟨(bI_f (by omega)), rfl⟩
    · refine g_iconst dX6_within_10 ?_
      refine g_goto (tgt := 15) dX6_within_11 rfl ?_
      exact g_iret hRet dX6_within_15 rfl ⟨(bI_t (by omega)), rfl⟩

set_option maxHeartbeats 4000000 in
set_option maxRecDepth 100000 in
theorem c_X6_isBox (E : Ev) (v : Int) (hv : -2147483648 ≤ v ∧ v ≤ 2147483647) : MI yX6_isBox wsX6_isBox ({ frames := 1, cells := 0, slots := 0, locals := 22 } : Room) E [] 0 0 [.int (iI v)] [] (fun r u => r = iI (bI (0 ≤ v ∧ v ≤ 29)) ∧ u = []) := by
  refine MI.of (cc := cX6_isBox) (maxL := 1) (own := RX6) (by decide) rfl rfl rfl (Nat.le_of_ble_eq_true rfl) [(0, .int (iI v))] rfl ?_
  intro X hin2 hRet
  refine g_iload_n 0 dX6_isBox_0 rfl rfl ?_
  refine g_iconst dX6_isBox_1 ?_
  refine g_bipush dX6_isBox_2 rfl ?_
  refine g_callS_i (n := 3) (As := [.int (iI v), .int (iI 0), .int (iI 29)]) (wr := []) [] (c_X6_within E v 0 29 (by omega) (by omega) (by omega)) [] [] gX6_isBox_X6_within rfl ⟨rfl, by decide +kernel⟩ ⟨by decide, by decide⟩ rfl rfl rfl rfl rfl (by decide) rfl (by decide) (by decide) (fun _ h => absurd h List.not_mem_nil) dX6_isBox_4 rfl (Nat.le_of_ble_eq_true rfl) ⟨by decide, by decide⟩ (fun r u p_1 => ?_)
  obtain ⟨rfl, rfl⟩ := p_1
  refine g_perm (ws1 := []) [] rfl (by decide) rfl ?_
  exact g_iret hRet dX6_isBox_7 (nar_b _) ⟨rfl, rfl⟩

set_option maxHeartbeats 4000000 in
set_option maxRecDepth 100000 in
theorem c_X6_isPallet (E : Ev) (v : Int) (hv : -2147483648 ≤ v ∧ v ≤ 2147483647) : MI yX6_isPallet wsX6_isPallet ({ frames := 1, cells := 0, slots := 0, locals := 22 } : Room) E [] 0 0 [.int (iI v)] [] (fun r u => r = iI (bI (0 ≤ v ∧ v ≤ 5)) ∧ u = []) := by
  refine MI.of (cc := cX6_isPallet) (maxL := 1) (own := RX6) (by decide) rfl rfl rfl (Nat.le_of_ble_eq_true rfl) [(0, .int (iI v))] rfl ?_
  intro X hin2 hRet
  refine g_iload_n 0 dX6_isPallet_0 rfl rfl ?_
  refine g_iconst dX6_isPallet_1 ?_
  refine g_iconst dX6_isPallet_2 ?_
  refine g_callS_i (n := 3) (As := [.int (iI v), .int (iI 0), .int (iI 5)]) (wr := []) [] (c_X6_within E v 0 5 (by omega) (by omega) (by omega)) [] [] gX6_isPallet_X6_within rfl ⟨rfl, by decide +kernel⟩ ⟨by decide, by decide⟩ rfl rfl rfl rfl rfl (by decide) rfl (by decide) (by decide) (fun _ h => absurd h List.not_mem_nil) dX6_isPallet_3 rfl (Nat.le_of_ble_eq_true rfl) ⟨by decide, by decide⟩ (fun r u p_1 => ?_)
  obtain ⟨rfl, rfl⟩ := p_1
  refine g_perm (ws1 := []) [] rfl (by decide) rfl ?_
  exact g_iret hRet dX6_isPallet_6 (nar_b _) ⟨rfl, rfl⟩

set_option maxHeartbeats 4000000 in
set_option maxRecDepth 100000 in
theorem c_X6_isSide (E : Ev) (v : Int) (hv : -2147483648 ≤ v ∧ v ≤ 2147483647) : MI yX6_isSide wsX6_isSide ({ frames := 1, cells := 0, slots := 0, locals := 22 } : Room) E [] 0 0 [.int (iI v)] [] (fun r u => r = iI (bI (1 ≤ v ∧ v ≤ 12)) ∧ u = []) := by
  refine MI.of (cc := cX6_isSide) (maxL := 1) (own := RX6) (by decide) rfl rfl rfl (Nat.le_of_ble_eq_true rfl) [(0, .int (iI v))] rfl ?_
  intro X hin2 hRet
  refine g_iload_n 0 dX6_isSide_0 rfl rfl ?_
  refine g_iconst dX6_isSide_1 ?_
  refine g_bipush dX6_isSide_2 rfl ?_
  refine g_callS_i (n := 3) (As := [.int (iI v), .int (iI 1), .int (iI 12)]) (wr := []) [] (c_X6_within E v 1 12 (by omega) (by omega) (by omega)) [] [] gX6_isSide_X6_within rfl ⟨rfl, by decide +kernel⟩ ⟨by decide, by decide⟩ rfl rfl rfl rfl rfl (by decide) rfl (by decide) (by decide) (fun _ h => absurd h List.not_mem_nil) dX6_isSide_4 rfl (Nat.le_of_ble_eq_true rfl) ⟨by decide, by decide⟩ (fun r u p_1 => ?_)
  obtain ⟨rfl, rfl⟩ := p_1
  refine g_perm (ws1 := []) [] rfl (by decide) rfl ?_
  exact g_iret hRet dX6_isSide_7 (nar_b _) ⟨rfl, rfl⟩

set_option maxHeartbeats 4000000 in
set_option maxRecDepth 100000 in
theorem c_X6_isKind (E : Ev) (v : Int) (hv : -2147483648 ≤ v ∧ v ≤ 2147483647) : MI yX6_isKind wsX6_isKind ({ frames := 0, cells := 0, slots := 0, locals := 0 } : Room) E [] 0 0 [.int (iI v)] [] (fun r u => r = iI (bI (0 ≤ v ∧ v ≤ 5)) ∧ u = []) := by
  refine MI.of (cc := cX6_isKind) (maxL := 1) (own := RX6) (by decide) rfl rfl rfl (Nat.le_of_ble_eq_true rfl) [(0, .int (iI v))] rfl ?_
  intro X hin2 hRet
  refine g_iload_n 0 dX6_isKind_0 rfl rfl ?_
  refine g_if_lt (tgt := 14) (by unfold R32; omega) dX6_isKind_1 rfl (fun c_1 => ?_) (fun c_1 => ?_)
  · refine g_iconst dX6_isKind_14 ?_
    exact g_iret hRet dX6_isKind_15 rfl ⟨(bI_f (by omega)), rfl⟩
  · refine g_iload_n 0 dX6_isKind_4 rfl rfl ?_
    refine g_bipush dX6_isKind_5 rfl ?_
    refine g_icmp_ge (tgt := 14) (by unfold R32; omega) (by unfold R32; omega) dX6_isKind_7 rfl (fun c_2 => ?_) (fun c_2 => ?_)
    · refine g_iconst dX6_isKind_14 ?_
      exact g_iret hRet dX6_isKind_15 rfl ⟨(bI_f (by omega)), rfl⟩
    · refine g_iconst dX6_isKind_10 ?_
      refine g_goto (tgt := 15) dX6_isKind_11 rfl ?_
      exact g_iret hRet dX6_isKind_15 rfl ⟨(bI_t (by omega)), rfl⟩

def sm (g : Int → Int) : Nat → Int
  | 0 => 0
  | n + 1 => sm g n + g (n : Int)
def sI (g : Int → Int) (i : Int) : Int := sm g i.toNat
theorem sI_0 (g : Int → Int) : sI g 0 = 0 := rfl
theorem sI_s (g : Int → Int) {i : Int} (h : 0 ≤ i) : sI g (i + 1) = sI g i + g i := by
  unfold sI
  rw [show (i + 1).toNat = i.toNat + 1 by omega]
  show sm g i.toNat + g (i.toNat : Int) = _
  rw [show ((i.toNat : Nat) : Int) = i by omega]
def orF (p : Int → Prop) [DecidablePred p] (v : Int → Int32) : Nat → Int32
  | 0 => iI 0
  | n + 1 => if p (n : Int) then orF p v n ||| v (n : Int) else orF p v n
def oI (p : Int → Prop) [DecidablePred p] (v : Int → Int32) (i : Int) : Int32 := orF p v i.toNat
theorem oI_s (p : Int → Prop) [DecidablePred p] (v : Int → Int32) {i : Int} (h : 0 ≤ i) : oI p v (i + 1) = if p i then oI p v i ||| v i else oI p v i := by
  unfold oI
  rw [show (i + 1).toNat = i.toNat + 1 by omega]
  show (if p (i.toNat : Int) then orF p v i.toNat ||| v (i.toNat : Int) else orF p v i.toNat) = _
  rw [show ((i.toNat : Nat) : Int) = i by omega]
def isL (bo : Int → Int) (cn box r : Int) : Prop := (r = -4 ∧ ∀ k, 0 ≤ k → k < cn → bo k ≠ box) ∨ (0 ≤ r ∧ r < cn ∧ bo r = box ∧ ∀ k, 0 ≤ k → k < r → bo k ≠ box)
def isG (bo : Int → Int) (cn box r : Int) : Prop := (r = -4 ∧ ∀ k, 0 ≤ k → k < cn → bo k ≠ box) ∨ (0 ≤ r ∧ r < cn ∧ bo r = box ∧ ∀ k, r < k → k < cn → bo k ≠ box)
def sPack (cn : Int) (bo cl un : Int → Int) (code box size x : Int) (bo' un' : Int → Int) : Prop :=
  if ¬ (0 ≤ code ∧ code ≤ cn - 1) ∨ bo code ≠ -4 ∨ cl box ≠ 0 then x = -2 ∧ bo' = bo ∧ un' = un else if size ≤ un box then x = -3 ∧ bo' = bo ∧ un' = un else x = un box + 1 ∧ bo' = up bo code box ∧ un' = up un box (un box + 1)
def sClose (cl un : Int → Int) (box size x : Int) (cl' : Int → Int) : Prop :=
  if cl box ≠ 0 ∨ un box ≠ size then x = -2 ∧ cl' = cl else x = 0 ∧ cl' = up cl box 1
def sStack (cl pl se on : Int → Int) (box pal high x : Int) (pl' on' : Int → Int) : Prop :=
  if cl box = 0 ∨ pl box ≠ -4 ∨ se pal ≠ 0 then x = -2 ∧ pl' = pl ∧ on' = on else if high ≤ on pal then x = -3 ∧ pl' = pl ∧ on' = on else x = on pal + 1 ∧ pl' = up pl box pal ∧ on' = up on pal (on pal + 1)
def sSeal (on se : Int → Int) (pal x : Int) (se' : Int → Int) : Prop :=
  if se pal ≠ 0 ∨ on pal = 0 then x = -2 ∧ se' = se else x = on pal ∧ se' = up se pal 1
def brk (bo : Int → Int) (n box : Int) : Int → Int := fun k => if 0 ≤ k ∧ k < n ∧ bo k = box then -4 else bo k

set_option maxHeartbeats 4000000 in
set_option maxRecDepth 100000 in
theorem c_X0_known (E : Ev) (h0 : Nat) (b1 : Nat) (b2 : Nat) (b3 : Nat) (b4 : Nat) (b5 : Nat) (b6 : Nat) (b7 : Nat) (b8 : Nat) (cn : Int) (code : Int) (hcn : 0 ≤ cn ∧ cn ≤ 200) (h_code : -2147483648 ≤ code ∧ code ≤ 2147483647) : MI yX0_known wsX0_known ({ frames := 1, cells := 0, slots := 0, locals := 22 } : Room) E [] 0 0 [.ref h0, .int (iI code)] [(h0, oo 0 [.int (iI cn), .ref b1, .ref b2, .ref b3, .ref b4, .ref b5, .ref b6, .ref b7, .ref b8])] (fun r u => r = iI (bI (0 ≤ code ∧ code ≤ cn - 1)) ∧ u = [(h0, oo 0 [.int (iI cn), .ref b1, .ref b2, .ref b3, .ref b4, .ref b5, .ref b6, .ref b7, .ref b8])]) := by
  refine MI.of (cc := cX0_known) (maxL := 2) (own := RX0) (by decide) rfl rfl rfl (Nat.le_of_ble_eq_true rfl) [(0, .ref h0), (1, .int (iI code))] rfl ?_
  intro X hin2 hRet
  refine g_iload_n 1 dX0_known_0 rfl rfl ?_
  refine g_iconst dX0_known_1 ?_
  refine g_aload_n 0 dX0_known_2 rfl rfl ?_
  refine g_get (C := RX0) (T := TX0) (N := 9) 0 0 (fun _ h => List.mem_cons_of_mem _ (List.mem_append_right _ h)) (List.mem_of_getElem? (i := 1) rfl) rfl rfl (by decide) rfl rfl dX0_known_3 ?_
  refine g_iconst dX0_known_6 ?_
  refine g_isub dX0_known_7 ?_
  refine g_callN_i (n := 3) (As := [.int (iI code), .int (iI 0), .int (iI (cn - 1))]) (wr := [(h0, oo 0 [.int (iI cn), .ref b1, .ref b2, .ref b3, .ref b4, .ref b5, .ref b6, .ref b7, .ref b8])]) [] (c_X6_within E code 0 (cn - 1) (by omega) (by omega) (by omega)) [] [0] gX0_known_X6_within_n47 (fun _ h => h.2.2.2.2.2.1) (List.mem_of_getElem? (i := 3) rfl) (List.mem_of_getElem? (i := 2) rfl) rfl (by decide +kernel) ⟨by decide, by decide⟩ rfl rfl rfl rfl rfl (by decide) rfl (by decide) (by decide) (fun _ h => absurd h List.not_mem_nil) dX0_known_8 rfl (Nat.le_of_ble_eq_true rfl) ⟨by decide, by decide⟩ (fun r u p_1 => ?_)
  obtain ⟨rfl, rfl⟩ := p_1
  refine g_perm (ws1 := [(h0, oo 0 [.int (iI cn), .ref b1, .ref b2, .ref b3, .ref b4, .ref b5, .ref b6, .ref b7, .ref b8])]) [0] rfl (by decide) rfl ?_
  exact g_iret hRet dX0_known_11 (nar_b _) ⟨(bI_c (by omega)), rfl⟩

set_option maxHeartbeats 4000000 in
set_option maxRecDepth 100000 in
theorem c_X0_add (E : Ev) (h0 : Nat) (b1 : Nat) (b2 : Nat) (b3 : Nat) (b4 : Nat) (b5 : Nat) (b6 : Nat) (b7 : Nat) (b8 : Nat) (cn : Int) (bo : Int → Int) (lt : Int → Int) (wg : Int → Int) (lot : Int) (hcn : 0 ≤ cn ∧ cn ≤ 200) (hbo : ∀ k, -4 ≤ bo k ∧ bo k ≤ 29) (hlt : ∀ k, 0 ≤ lt k ∧ lt k ≤ 15) (hwg : ∀ k, -4 ≤ wg k ∧ wg k ≤ 10000) (h_lot : -2147483648 ≤ lot ∧ lot ≤ 2147483647) : MV yX0_add wsX0_add ({ frames := 0, cells := 0, slots := 0, locals := 0 } : Room) E [] 0 0 [.ref h0, .int (iI lot)] [(h0, oo 0 [.int (iI cn), .ref b1, .ref b2, .ref b3, .ref b4, .ref b5, .ref b6, .ref b7, .ref b8]), (b1, aI E 200 bo), (b2, aI E 200 lt), (b3, aI E 200 wg)] (fun u => u = [(h0, oo 0 [.int (iI (if cn < 200 then cn + 1 else cn)), .ref b1, .ref b2, .ref b3, .ref b4, .ref b5, .ref b6, .ref b7, .ref b8]), (b1, aI E 200 (if cn < 200 then up bo cn (-4) else bo)), (b2, aI E 200 (if cn < 200 then up lt cn lot else lt)), (b3, aI E 200 (if cn < 200 then up wg cn (-4) else wg))]) := by
  refine MV.of (cc := cX0_add) (maxL := 2) (own := RX0) (by decide) rfl rfl rfl (Nat.le_of_ble_eq_true rfl) [(0, .ref h0), (1, .int (iI lot))] rfl ?_
  intro X hin2 hRet
  refine g_aload_n 0 dX0_add_0 rfl rfl ?_
  refine g_get (C := RX0) (T := TX0) (N := 9) 0 0 (fun _ h => List.mem_cons_of_mem _ (List.mem_append_right _ h)) (List.mem_of_getElem? (i := 1) rfl) rfl rfl (by decide) rfl rfl dX0_add_1 ?_
  refine g_sipush dX0_add_4 rfl ?_
  refine g_icmp_lt (tgt := 11) (by unfold R32; omega) (by unfold R32; omega) dX0_add_7 rfl (fun c_1 => ?_) (fun c_1 => ?_)
  · refine g_aload_n 0 dX0_add_11 rfl rfl ?_
    refine g_get (C := RX0) (T := TX0) (N := 9) 0 1 (fun _ h => List.mem_cons_of_mem _ (List.mem_append_right _ h)) (List.mem_of_getElem? (i := 2) rfl) rfl rfl (by decide) rfl rfl dX0_add_12 ?_
    refine g_aload_n 0 dX0_add_15 rfl rfl ?_
    refine g_get (C := RX0) (T := TX0) (N := 9) 0 0 (fun _ h => List.mem_cons_of_mem _ (List.mem_append_right _ h)) (List.mem_of_getElem? (i := 1) rfl) rfl rfl (by decide) rfl rfl dX0_add_16 ?_
    refine g_bipush dX0_add_19 rfl ?_
    refine g_iast (ws1 := [(h0, oo 0 [.int (iI cn), .ref b1, .ref b2, .ref b3, .ref b4, .ref b5, .ref b6, .ref b7, .ref b8]), (b1, aI E 200 (up bo cn (-4))), (b2, aI E 200 lt), (b3, aI E 200 wg)]) 1 dX0_add_21 rfl rfl (by decide) (by omega) (by omega) ?_
    refine g_aload_n 0 dX0_add_22 rfl rfl ?_
    refine g_get (C := RX0) (T := TX0) (N := 9) 0 2 (fun _ h => List.mem_cons_of_mem _ (List.mem_append_right _ h)) (List.mem_of_getElem? (i := 3) rfl) rfl rfl (by decide) rfl rfl dX0_add_23 ?_
    refine g_aload_n 0 dX0_add_26 rfl rfl ?_
    refine g_get (C := RX0) (T := TX0) (N := 9) 0 0 (fun _ h => List.mem_cons_of_mem _ (List.mem_append_right _ h)) (List.mem_of_getElem? (i := 1) rfl) rfl rfl (by decide) rfl rfl dX0_add_27 ?_
    refine g_iload_n 1 dX0_add_30 rfl rfl ?_
    refine g_iast (ws1 := [(h0, oo 0 [.int (iI cn), .ref b1, .ref b2, .ref b3, .ref b4, .ref b5, .ref b6, .ref b7, .ref b8]), (b1, aI E 200 (up bo cn (-4))), (b2, aI E 200 (up lt cn lot)), (b3, aI E 200 wg)]) 2 dX0_add_31 rfl rfl (by decide) (by omega) (by omega) ?_
    refine g_aload_n 0 dX0_add_32 rfl rfl ?_
    refine g_get (C := RX0) (T := TX0) (N := 9) 0 3 (fun _ h => List.mem_cons_of_mem _ (List.mem_append_right _ h)) (List.mem_of_getElem? (i := 4) rfl) rfl rfl (by decide) rfl rfl dX0_add_33 ?_
    refine g_aload_n 0 dX0_add_36 rfl rfl ?_
    refine g_get (C := RX0) (T := TX0) (N := 9) 0 0 (fun _ h => List.mem_cons_of_mem _ (List.mem_append_right _ h)) (List.mem_of_getElem? (i := 1) rfl) rfl rfl (by decide) rfl rfl dX0_add_37 ?_
    refine g_bipush dX0_add_40 rfl ?_
    refine g_iast (ws1 := [(h0, oo 0 [.int (iI cn), .ref b1, .ref b2, .ref b3, .ref b4, .ref b5, .ref b6, .ref b7, .ref b8]), (b1, aI E 200 (up bo cn (-4))), (b2, aI E 200 (up lt cn lot)), (b3, aI E 200 (up wg cn (-4)))]) 3 dX0_add_42 rfl rfl (by decide) (by omega) (by omega) ?_
    refine g_aload_n 0 dX0_add_43 rfl rfl ?_
    refine g_dup dX0_add_44 rfl ?_
    refine g_get (C := RX0) (T := TX0) (N := 9) 0 0 (fun _ h => List.mem_cons_of_mem _ (List.mem_append_right _ h)) (List.mem_of_getElem? (i := 1) rfl) rfl rfl (by decide) rfl rfl dX0_add_45 ?_
    refine g_iconst dX0_add_48 ?_
    refine g_iadd dX0_add_49 ?_
    refine g_put (C := RX0) (T := TX0) (N := 9) (ws1 := [(h0, oo 0 [.int (iI (cn + 1)), .ref b1, .ref b2, .ref b3, .ref b4, .ref b5, .ref b6, .ref b7, .ref b8]), (b1, aI E 200 (up bo cn (-4))), (b2, aI E 200 (up lt cn lot)), (b3, aI E 200 (up wg cn (-4)))]) 0 0 (fun _ h => List.mem_cons_of_mem _ (List.mem_append_right _ h)) tyX0 tyX0_ok nmX0 (List.mem_of_getElem? (i := 1) rfl) rfl rfl (by decide) rfl (tyX0_ok 0 (by decide)) rfl rfl (by first | decide | exact Nat.le_of_ble_eq_true rfl) dX0_add_50 rfl rfl ?_
    exact g_vret hRet dX0_add_53 (by simp only [if_pos (show cn < 200 by omega)])
  · exact g_vret hRet dX0_add_10 (by simp only [if_neg (show ¬ cn < 200 by omega)])

set_option maxHeartbeats 4000000 in
set_option maxRecDepth 100000 in
theorem c_X0_packInto (E : Ev) (h0 : Nat) (b1 : Nat) (b2 : Nat) (b3 : Nat) (b4 : Nat) (b5 : Nat) (b6 : Nat) (b7 : Nat) (b8 : Nat) (cn : Int) (bo : Int → Int) (un : Int → Int) (cl : Int → Int) (code : Int) (box : Int) (size : Int) (hcn : 0 ≤ cn ∧ cn ≤ 200) (hbo : ∀ k, -4 ≤ bo k ∧ bo k ≤ 29) (hun : ∀ k, 0 ≤ un k ∧ un k ≤ 200) (hcl : ∀ k, 0 ≤ cl k ∧ cl k ≤ 1) (h_code : -2147483648 ≤ code ∧ code ≤ 2147483647) (h_box : -2147483648 ≤ box ∧ box ≤ 2147483647) (h_size : -2147483648 ≤ size ∧ size ≤ 2147483647) (hr_box : 0 ≤ box ∧ box < 30) : MI yX0_packInto wsX0_packInto ({ frames := 2, cells := 0, slots := 0, locals := 43 } : Room) E [] 0 0 [.ref h0, .int (iI code), .int (iI box), .int (iI size)] [(h0, oo 0 [.int (iI cn), .ref b1, .ref b2, .ref b3, .ref b4, .ref b5, .ref b6, .ref b7, .ref b8]), (b1, aI E 200 bo), (b4, aI E 30 un), (b5, aZ E 30 cl)] (fun r u => ∃ (x : Int), ∃ (bo' : Int → Int), ∃ (un' : Int → Int), sPack cn bo cl un code box size x bo' un' ∧ r = iI x ∧ u = [(h0, oo 0 [.int (iI cn), .ref b1, .ref b2, .ref b3, .ref b4, .ref b5, .ref b6, .ref b7, .ref b8]), (b1, aI E 200 bo'), (b4, aI E 30 un'), (b5, aZ E 30 cl)]) := by
  refine MI.of (cc := cX0_packInto) (maxL := 4) (own := RX0) (by decide) rfl rfl rfl (Nat.le_of_ble_eq_true rfl) [(0, .ref h0), (1, .int (iI code)), (2, .int (iI box)), (3, .int (iI size))] rfl ?_
  intro X hin2 hRet
  refine g_aload_n 0 dX0_packInto_0 rfl rfl ?_
  refine g_iload_n 1 dX0_packInto_1 rfl rfl ?_
  refine g_callV_i (n := 1) (As := [.int (iI code)]) (wr := [(b1, aI E 200 bo), (b4, aI E 30 un), (b5, aZ E 30 cl)]) (C := RX0) [] (c_X0_known E h0 b1 b2 b3 b4 b5 b6 b7 b8 cn code (by omega) (by omega)) [0] [1, 2, 3] 0 rfl rfl gX0_packInto_X0_known rfl ⟨rfl, by decide +kernel⟩ ⟨by decide, by decide⟩ rfl rfl rfl rfl rfl (by decide) rfl (by decide) (by decide) (fun _ h => absurd h List.not_mem_nil) dX0_packInto_2 rfl (Nat.le_of_ble_eq_true rfl) ⟨by decide, by decide⟩ (fun r u p_1 => ?_)
  obtain ⟨rfl, rfl⟩ := p_1
  refine g_perm (ws1 := [(h0, oo 0 [.int (iI cn), .ref b1, .ref b2, .ref b3, .ref b4, .ref b5, .ref b6, .ref b7, .ref b8]), (b1, aI E 200 bo), (b4, aI E 30 un), (b5, aZ E 30 cl)]) [3, 0, 1, 2] rfl (by decide) rfl ?_
  refine g_if_eq_b (tgt := 28) dX0_packInto_5 rfl (fun c_2 => ?_) (fun c_2 => ?_)
  · refine g_aload_n 0 dX0_packInto_8 rfl rfl ?_
    refine g_get (C := RX0) (T := TX0) (N := 9) 0 1 (fun _ h => List.mem_cons_of_mem _ (List.mem_append_right _ h)) (List.mem_of_getElem? (i := 1) rfl) rfl rfl (by decide) rfl rfl dX0_packInto_9 ?_
    refine g_iload_n 1 dX0_packInto_12 rfl rfl ?_
    refine g_iald 1 dX0_packInto_13 rfl (by decide) (by omega) (by omega) ?_
    have q_3 := hbo code
    refine g_bipush dX0_packInto_14 rfl ?_
    refine g_icmp_ne (tgt := 28) (by unfold R32; omega) (by unfold R32; omega) dX0_packInto_16 rfl (fun c_4 => ?_) (fun c_4 => ?_)
    · refine g_aload_n 0 dX0_packInto_19 rfl rfl ?_
      refine g_get (C := RX0) (T := TX0) (N := 9) 0 5 (fun _ h => List.mem_cons_of_mem _ (List.mem_append_right _ h)) (List.mem_of_getElem? (i := 2) rfl) rfl rfl (by decide) rfl rfl dX0_packInto_20 ?_
      refine g_iload_n 2 dX0_packInto_23 rfl rfl ?_
      refine g_zald 3 dX0_packInto_24 rfl (by decide) (by omega) (by omega) ?_
      have q_5 := hcl box
      refine g_if_eq (tgt := 31) (by unfold R32; omega) dX0_packInto_25 rfl (fun c_6 => ?_) (fun c_6 => ?_)
      · refine g_aload_n 0 dX0_packInto_31 rfl rfl ?_
        refine g_get (C := RX0) (T := TX0) (N := 9) 0 4 (fun _ h => List.mem_cons_of_mem _ (List.mem_append_right _ h)) (List.mem_of_getElem? (i := 3) rfl) rfl rfl (by decide) rfl rfl dX0_packInto_32 ?_
        refine g_iload_n 2 dX0_packInto_35 rfl rfl ?_
        refine g_iald 2 dX0_packInto_36 rfl (by decide) (by omega) (by omega) ?_
        have q_7 := hun box
        refine g_iload_n 3 dX0_packInto_37 rfl rfl ?_
        refine g_icmp_lt (tgt := 44) (by unfold R32; omega) (by unfold R32; omega) dX0_packInto_38 rfl (fun c_8 => ?_) (fun c_8 => ?_)
        · refine g_aload_n 0 dX0_packInto_44 rfl rfl ?_
          refine g_get (C := RX0) (T := TX0) (N := 9) 0 1 (fun _ h => List.mem_cons_of_mem _ (List.mem_append_right _ h)) (List.mem_of_getElem? (i := 1) rfl) rfl rfl (by decide) rfl rfl dX0_packInto_45 ?_
          refine g_iload_n 1 dX0_packInto_48 rfl rfl ?_
          refine g_iload_n 2 dX0_packInto_49 rfl rfl ?_
          refine g_iast (ws1 := [(h0, oo 0 [.int (iI cn), .ref b1, .ref b2, .ref b3, .ref b4, .ref b5, .ref b6, .ref b7, .ref b8]), (b1, aI E 200 (up bo code box)), (b4, aI E 30 un), (b5, aZ E 30 cl)]) 1 dX0_packInto_50 rfl rfl (by decide) (by omega) (by omega) ?_
          refine g_aload_n 0 dX0_packInto_51 rfl rfl ?_
          refine g_get (C := RX0) (T := TX0) (N := 9) 0 4 (fun _ h => List.mem_cons_of_mem _ (List.mem_append_right _ h)) (List.mem_of_getElem? (i := 3) rfl) rfl rfl (by decide) rfl rfl dX0_packInto_52 ?_
          refine g_iload_n 2 dX0_packInto_55 rfl rfl ?_
          refine g_dup2 dX0_packInto_56 rfl rfl ?_
          refine g_iald 2 dX0_packInto_57 rfl (by decide) (by omega) (by omega) ?_
          have q_9 := hun box
          refine g_iconst dX0_packInto_58 ?_
          refine g_iadd dX0_packInto_59 ?_
          refine g_iast (ws1 := [(h0, oo 0 [.int (iI cn), .ref b1, .ref b2, .ref b3, .ref b4, .ref b5, .ref b6, .ref b7, .ref b8]), (b1, aI E 200 (up bo code box)), (b4, aI E 30 (up un box ((un box) + 1))), (b5, aZ E 30 cl)]) 2 dX0_packInto_60 rfl rfl (by decide) (by omega) (by omega) ?_
          refine g_aload_n 0 dX0_packInto_61 rfl rfl ?_
          refine g_get (C := RX0) (T := TX0) (N := 9) 0 4 (fun _ h => List.mem_cons_of_mem _ (List.mem_append_right _ h)) (List.mem_of_getElem? (i := 3) rfl) rfl rfl (by decide) rfl rfl dX0_packInto_62 ?_
          refine g_iload_n 2 dX0_packInto_65 rfl rfl ?_
          refine g_iald 2 dX0_packInto_66 rfl (by decide) (by omega) (by omega) ?_
          exact g_iret hRet dX0_packInto_67 rfl ⟨((up un box ((un box) + 1)) box), (up bo code box), (up un box ((un box) + 1)), (by (unfold sPack; (repeat' split) <;> first | (exfalso; omega) | exact ⟨rfl, rfl, rfl⟩ | (refine ⟨?_, ?_, ?_⟩ <;> first | rfl | omega | (simp only [up_s]; done)))), rfl, rfl⟩
        · refine g_bipush dX0_packInto_41 rfl ?_
          exact g_iret hRet dX0_packInto_43 rfl ⟨(-3), bo, un, (by (unfold sPack; (repeat' split) <;> first | (exfalso; omega) | exact ⟨rfl, rfl, rfl⟩ | (refine ⟨?_, ?_, ?_⟩ <;> first | rfl | omega | (simp only [up_s]; done)))), rfl, rfl⟩
      · refine g_bipush dX0_packInto_28 rfl ?_
        exact g_iret hRet dX0_packInto_30 rfl ⟨(-2), bo, un, (by (unfold sPack; (repeat' split) <;> first | (exfalso; omega) | exact ⟨rfl, rfl, rfl⟩ | (refine ⟨?_, ?_, ?_⟩ <;> first | rfl | omega | (simp only [up_s]; done)))), rfl, rfl⟩
    · refine g_bipush dX0_packInto_28 rfl ?_
      exact g_iret hRet dX0_packInto_30 rfl ⟨(-2), bo, un, (by (unfold sPack; (repeat' split) <;> first | (exfalso; omega) | exact ⟨rfl, rfl, rfl⟩ | (refine ⟨?_, ?_, ?_⟩ <;> first | rfl | omega | (simp only [up_s]; done)))), rfl, rfl⟩
  · refine g_bipush dX0_packInto_28 rfl ?_
    exact g_iret hRet dX0_packInto_30 rfl ⟨(-2), bo, un, (by (unfold sPack; (repeat' split) <;> first | (exfalso; omega) | exact ⟨rfl, rfl, rfl⟩ | (refine ⟨?_, ?_, ?_⟩ <;> first | rfl | omega | (simp only [up_s]; done)))), rfl, rfl⟩

set_option maxHeartbeats 4000000 in
set_option maxRecDepth 100000 in
theorem c_X0_closeBox (E : Ev) (h0 : Nat) (b1 : Nat) (b2 : Nat) (b3 : Nat) (b4 : Nat) (b5 : Nat) (b6 : Nat) (b7 : Nat) (b8 : Nat) (cn : Int) (un : Int → Int) (cl : Int → Int) (box : Int) (size : Int) (hcn : 0 ≤ cn ∧ cn ≤ 200) (hun : ∀ k, 0 ≤ un k ∧ un k ≤ 200) (hcl : ∀ k, 0 ≤ cl k ∧ cl k ≤ 1) (h_box : -2147483648 ≤ box ∧ box ≤ 2147483647) (h_size : -2147483648 ≤ size ∧ size ≤ 2147483647) (hr_box : 0 ≤ box ∧ box < 30) : MI yX0_closeBox wsX0_closeBox ({ frames := 0, cells := 0, slots := 0, locals := 0 } : Room) E [] 0 0 [.ref h0, .int (iI box), .int (iI size)] [(h0, oo 0 [.int (iI cn), .ref b1, .ref b2, .ref b3, .ref b4, .ref b5, .ref b6, .ref b7, .ref b8]), (b4, aI E 30 un), (b5, aZ E 30 cl)] (fun r u => ∃ (x : Int), ∃ (cl' : Int → Int), sClose cl un box size x cl' ∧ r = iI x ∧ u = [(h0, oo 0 [.int (iI cn), .ref b1, .ref b2, .ref b3, .ref b4, .ref b5, .ref b6, .ref b7, .ref b8]), (b4, aI E 30 un), (b5, aZ E 30 cl')]) := by
  refine MI.of (cc := cX0_closeBox) (maxL := 3) (own := RX0) (by decide) rfl rfl rfl (Nat.le_of_ble_eq_true rfl) [(0, .ref h0), (1, .int (iI box)), (2, .int (iI size))] rfl ?_
  intro X hin2 hRet
  refine g_aload_n 0 dX0_closeBox_0 rfl rfl ?_
  refine g_get (C := RX0) (T := TX0) (N := 9) 0 5 (fun _ h => List.mem_cons_of_mem _ (List.mem_append_right _ h)) (List.mem_of_getElem? (i := 1) rfl) rfl rfl (by decide) rfl rfl dX0_closeBox_1 ?_
  refine g_iload_n 1 dX0_closeBox_4 rfl rfl ?_
  refine g_zald 2 dX0_closeBox_5 rfl (by decide) (by omega) (by omega) ?_
  have q_1 := hcl box
  refine g_if_ne (tgt := 19) (by unfold R32; omega) dX0_closeBox_6 rfl (fun c_2 => ?_) (fun c_2 => ?_)
  · refine g_aload_n 0 dX0_closeBox_9 rfl rfl ?_
    refine g_get (C := RX0) (T := TX0) (N := 9) 0 4 (fun _ h => List.mem_cons_of_mem _ (List.mem_append_right _ h)) (List.mem_of_getElem? (i := 2) rfl) rfl rfl (by decide) rfl rfl dX0_closeBox_10 ?_
    refine g_iload_n 1 dX0_closeBox_13 rfl rfl ?_
    refine g_iald 1 dX0_closeBox_14 rfl (by decide) (by omega) (by omega) ?_
    have q_3 := hun box
    refine g_iload_n 2 dX0_closeBox_15 rfl rfl ?_
    refine g_icmp_eq (tgt := 22) (by unfold R32; omega) (by unfold R32; omega) dX0_closeBox_16 rfl (fun c_4 => ?_) (fun c_4 => ?_)
    · refine g_aload_n 0 dX0_closeBox_22 rfl rfl ?_
      refine g_get (C := RX0) (T := TX0) (N := 9) 0 5 (fun _ h => List.mem_cons_of_mem _ (List.mem_append_right _ h)) (List.mem_of_getElem? (i := 1) rfl) rfl rfl (by decide) rfl rfl dX0_closeBox_23 ?_
      refine g_iload_n 1 dX0_closeBox_26 rfl rfl ?_
      refine g_iconst dX0_closeBox_27 ?_
      refine g_zast (ws1 := [(h0, oo 0 [.int (iI cn), .ref b1, .ref b2, .ref b3, .ref b4, .ref b5, .ref b6, .ref b7, .ref b8]), (b4, aI E 30 un), (b5, aZ E 30 (up cl box 1))]) 2 dX0_closeBox_28 rfl (by omega) rfl (by decide) (by omega) (by omega) ?_
      refine g_iconst dX0_closeBox_29 ?_
      exact g_iret hRet dX0_closeBox_30 rfl ⟨0, (up cl box 1), (by (unfold sClose; (repeat' split) <;> first | (exfalso; omega) | exact ⟨rfl, rfl⟩ | (refine ⟨?_, ?_⟩ <;> first | rfl | omega | (simp only [up_s]; done)))), rfl, rfl⟩
    · refine g_bipush dX0_closeBox_19 rfl ?_
      exact g_iret hRet dX0_closeBox_21 rfl ⟨(-2), cl, (by (unfold sClose; (repeat' split) <;> first | (exfalso; omega) | exact ⟨rfl, rfl⟩ | (refine ⟨?_, ?_⟩ <;> first | rfl | omega | (simp only [up_s]; done)))), rfl, rfl⟩
  · refine g_bipush dX0_closeBox_19 rfl ?_
    exact g_iret hRet dX0_closeBox_21 rfl ⟨(-2), cl, (by (unfold sClose; (repeat' split) <;> first | (exfalso; omega) | exact ⟨rfl, rfl⟩ | (refine ⟨?_, ?_⟩ <;> first | rfl | omega | (simp only [up_s]; done)))), rfl, rfl⟩

set_option maxHeartbeats 4000000 in
set_option maxRecDepth 100000 in
theorem c_X0_leastIn (E : Ev) (h0 : Nat) (b1 : Nat) (b2 : Nat) (b3 : Nat) (b4 : Nat) (b5 : Nat) (b6 : Nat) (b7 : Nat) (b8 : Nat) (cn : Int) (bo : Int → Int) (box : Int) (hcn : 0 ≤ cn ∧ cn ≤ 200) (hbo : ∀ k, -4 ≤ bo k ∧ bo k ≤ 29) (h_box : -2147483648 ≤ box ∧ box ≤ 2147483647) : MI yX0_leastIn wsX0_leastIn ({ frames := 0, cells := 0, slots := 0, locals := 0 } : Room) E [] 0 0 [.ref h0, .int (iI box)] [(h0, oo 0 [.int (iI cn), .ref b1, .ref b2, .ref b3, .ref b4, .ref b5, .ref b6, .ref b7, .ref b8]), (b1, aI E 200 bo)] (fun r u => ∃ (x : Int), isL bo cn box x ∧ r = iI x ∧ u = [(h0, oo 0 [.int (iI cn), .ref b1, .ref b2, .ref b3, .ref b4, .ref b5, .ref b6, .ref b7, .ref b8]), (b1, aI E 200 bo)]) := by
  refine MI.of (cc := cX0_leastIn) (maxL := 3) (own := RX0) (by decide) rfl rfl rfl (Nat.le_of_ble_eq_true rfl) [(0, .ref h0), (1, .int (iI box))] rfl ?_
  intro X hin2 hRet
  refine g_iconst dX0_leastIn_0 ?_
  refine g_istore_n (lv1 := [(2, .int (iI 0)), (0, .ref h0), (1, .int (iI box))]) dX0_leastIn_1 rfl (by decide) rfl ?_
  refine g_lv (lv1 := [(0, .ref h0), (1, .int (iI box)), (2, .int (iI 0))]) [1, 2, 0] rfl ?_
  have L2 : ∀ (nn : Nat) (i : Int) (hi : 0 ≤ i ∧ i ≤ cn) (ha : ∀ k, 0 ≤ k → k < i → bo k ≠ box) (hm : cn - i < (nn : Int)), G X ({ frames := 0, cells := 0, slots := 0, locals := 0 } : Room) cX0_leastIn 3 RX0 wsX0_leastIn E [] 0 0 [(h0, oo 0 [.int (iI cn), .ref b1, .ref b2, .ref b3, .ref b4, .ref b5, .ref b6, .ref b7, .ref b8]), (b1, aI E 200 bo)] [(0, .ref h0), (1, .int (iI box)), (2, .int (iI i))] 2 [] := by
    intro nn
    induction nn with
    | zero => intro i hi ha hm; exfalso; omega
    | succ nn ih2 =>
      intro i hi ha hm
      refine g_iload_n 2 dX0_leastIn_2 rfl rfl ?_
      refine g_aload_n 0 dX0_leastIn_3 rfl rfl ?_
      refine g_get (C := RX0) (T := TX0) (N := 9) 0 0 (fun _ h => List.mem_cons_of_mem _ (List.mem_append_right _ h)) (List.mem_of_getElem? (i := 1) rfl) rfl rfl (by decide) rfl rfl dX0_leastIn_4 ?_
      refine g_icmp_ge (tgt := 28) (by unfold R32; omega) (by unfold R32; omega) dX0_leastIn_7 rfl (fun c_1 => ?_) (fun c_1 => ?_)
      · refine g_bipush dX0_leastIn_28 rfl ?_
        exact g_iret hRet dX0_leastIn_30 rfl ⟨(-4), (by exact Or.inl ⟨rfl, fun k k1 k2 => ha k k1 (by omega)⟩), rfl, rfl⟩
      · refine g_aload_n 0 dX0_leastIn_10 rfl rfl ?_
        refine g_get (C := RX0) (T := TX0) (N := 9) 0 1 (fun _ h => List.mem_cons_of_mem _ (List.mem_append_right _ h)) (List.mem_of_getElem? (i := 2) rfl) rfl rfl (by decide) rfl rfl dX0_leastIn_11 ?_
        refine g_iload_n 2 dX0_leastIn_14 rfl rfl ?_
        refine g_iald 1 dX0_leastIn_15 rfl (by decide) (by omega) (by omega) ?_
        have q_2 := hbo i
        refine g_iload_n 1 dX0_leastIn_16 rfl rfl ?_
        refine g_icmp_ne (tgt := 22) (by unfold R32; omega) (by unfold R32; omega) dX0_leastIn_17 rfl (fun hne => ?_) (fun hne => ?_)
        · refine g_iload_n 2 dX0_leastIn_20 rfl rfl ?_
          exact g_iret hRet dX0_leastIn_21 rfl ⟨i, (by exact Or.inr ⟨by omega, by omega, hne, ha⟩), rfl, rfl⟩
        · refine g_iinc (lv1 := [(2, .int (iI (i + 1))), (0, .ref h0), (1, .int (iI box))]) 2 dX0_leastIn_22 rfl (by decide) rfl ?_
          refine g_goto (tgt := 2) dX0_leastIn_25 rfl ?_
          refine g_lv (lv1 := [(0, .ref h0), (1, .int (iI box)), (2, .int (iI (i + 1)))]) [1, 2, 0] rfl ?_
          exact ih2 (i + 1) (by omega) (by intro k k1 k2; by_cases kk : k = i; rw [kk]; exact hne; exact ha k (by omega) (by omega)) (by omega)
  exact L2 _ 0 (by omega) (by intro k k1 k2; omega) (lt_nn _)

set_option maxHeartbeats 4000000 in
set_option maxRecDepth 100000 in
theorem c_X0_greatestIn (E : Ev) (h0 : Nat) (b1 : Nat) (b2 : Nat) (b3 : Nat) (b4 : Nat) (b5 : Nat) (b6 : Nat) (b7 : Nat) (b8 : Nat) (cn : Int) (bo : Int → Int) (box : Int) (hcn : 0 ≤ cn ∧ cn ≤ 200) (hbo : ∀ k, -4 ≤ bo k ∧ bo k ≤ 29) (h_box : -2147483648 ≤ box ∧ box ≤ 2147483647) : MI yX0_greatestIn wsX0_greatestIn ({ frames := 0, cells := 0, slots := 0, locals := 0 } : Room) E [] 0 0 [.ref h0, .int (iI box)] [(h0, oo 0 [.int (iI cn), .ref b1, .ref b2, .ref b3, .ref b4, .ref b5, .ref b6, .ref b7, .ref b8]), (b1, aI E 200 bo)] (fun r u => ∃ (x : Int), isG bo cn box x ∧ r = iI x ∧ u = [(h0, oo 0 [.int (iI cn), .ref b1, .ref b2, .ref b3, .ref b4, .ref b5, .ref b6, .ref b7, .ref b8]), (b1, aI E 200 bo)]) := by
  refine MI.of (cc := cX0_greatestIn) (maxL := 3) (own := RX0) (by decide) rfl rfl rfl (Nat.le_of_ble_eq_true rfl) [(0, .ref h0), (1, .int (iI box))] rfl ?_
  intro X hin2 hRet
  refine g_aload_n 0 dX0_greatestIn_0 rfl rfl ?_
  refine g_get (C := RX0) (T := TX0) (N := 9) 0 0 (fun _ h => List.mem_cons_of_mem _ (List.mem_append_right _ h)) (List.mem_of_getElem? (i := 1) rfl) rfl rfl (by decide) rfl rfl dX0_greatestIn_1 ?_
  refine g_iconst dX0_greatestIn_4 ?_
  refine g_isub dX0_greatestIn_5 ?_
  refine g_istore_n (lv1 := [(2, .int (iI (cn - 1))), (0, .ref h0), (1, .int (iI box))]) dX0_greatestIn_6 rfl (by decide) rfl ?_
  refine g_lv (lv1 := [(0, .ref h0), (1, .int (iI box)), (2, .int (iI (cn - 1)))]) [1, 2, 0] rfl ?_
  have L7 : ∀ (nn : Nat) (i : Int) (hi : -1 ≤ i ∧ i ≤ cn - 1) (ha : ∀ k, i < k → k < cn → bo k ≠ box) (hm : i + 1 < (nn : Int)), G X ({ frames := 0, cells := 0, slots := 0, locals := 0 } : Room) cX0_greatestIn 3 RX0 wsX0_greatestIn E [] 0 0 [(h0, oo 0 [.int (iI cn), .ref b1, .ref b2, .ref b3, .ref b4, .ref b5, .ref b6, .ref b7, .ref b8]), (b1, aI E 200 bo)] [(0, .ref h0), (1, .int (iI box)), (2, .int (iI i))] 7 [] := by
    intro nn
    induction nn with
    | zero => intro i hi ha hm; exfalso; omega
    | succ nn ih7 =>
      intro i hi ha hm
      refine g_iload_n 2 dX0_greatestIn_7 rfl rfl ?_
      refine g_if_lt (tgt := 29) (by unfold R32; omega) dX0_greatestIn_8 rfl (fun c_1 => ?_) (fun c_1 => ?_)
      · refine g_bipush dX0_greatestIn_29 rfl ?_
        exact g_iret hRet dX0_greatestIn_31 rfl ⟨(-4), (by exact Or.inl ⟨rfl, fun k k1 k2 => ha k (by omega) k2⟩), rfl, rfl⟩
      · refine g_aload_n 0 dX0_greatestIn_11 rfl rfl ?_
        refine g_get (C := RX0) (T := TX0) (N := 9) 0 1 (fun _ h => List.mem_cons_of_mem _ (List.mem_append_right _ h)) (List.mem_of_getElem? (i := 2) rfl) rfl rfl (by decide) rfl rfl dX0_greatestIn_12 ?_
        refine g_iload_n 2 dX0_greatestIn_15 rfl rfl ?_
        refine g_iald 1 dX0_greatestIn_16 rfl (by decide) (by omega) (by omega) ?_
        have q_2 := hbo i
        refine g_iload_n 1 dX0_greatestIn_17 rfl rfl ?_
        refine g_icmp_ne (tgt := 23) (by unfold R32; omega) (by unfold R32; omega) dX0_greatestIn_18 rfl (fun hne => ?_) (fun hne => ?_)
        · refine g_iload_n 2 dX0_greatestIn_21 rfl rfl ?_
          exact g_iret hRet dX0_greatestIn_22 rfl ⟨i, (by exact Or.inr ⟨by omega, by omega, hne, ha⟩), rfl, rfl⟩
        · refine g_iinc (lv1 := [(2, .int (iI (i + (-1)))), (0, .ref h0), (1, .int (iI box))]) 2 dX0_greatestIn_23 rfl (by decide) rfl ?_
          refine g_goto (tgt := 7) dX0_greatestIn_26 rfl ?_
          refine g_lv (lv1 := [(0, .ref h0), (1, .int (iI box)), (2, .int (iI (i + (-1))))]) [1, 2, 0] rfl ?_
          exact ih7 (i + (-1)) (by omega) (by intro k k1 k2; by_cases kk : k = i; rw [kk]; exact hne; exact ha k (by omega) (by omega)) (by omega)
  exact L7 _ (cn - 1) (by omega) (by intro k k1 k2; omega) (lt_nn _)

def isO (bo : Int → Int) (cn a b r : Int) : Prop := (r = -4 ∧ ¬ ∃ j, 0 ≤ j ∧ j < cn ∧ a ≤ j ∧ j ≤ b ∧ bo j = -4 ∧ ∀ k, 0 ≤ k → k < cn → a ≤ k → k ≤ b → bo k = -4 → k = j) ∨ (0 ≤ r ∧ r < cn ∧ a ≤ r ∧ r ≤ b ∧ bo r = -4 ∧ ∀ k, 0 ≤ k → k < cn → a ≤ k → k ≤ b → bo k = -4 → k = r)

set_option maxHeartbeats 4000000 in
set_option maxRecDepth 100000 in
theorem c_X0_onlyLooseIn (E : Ev) (h0 : Nat) (b1 : Nat) (b2 : Nat) (b3 : Nat) (b4 : Nat) (b5 : Nat) (b6 : Nat) (b7 : Nat) (b8 : Nat) (cn : Int) (bo : Int → Int) (a : Int) (b : Int) (hcn : 0 ≤ cn ∧ cn ≤ 200) (hbo : ∀ k, -4 ≤ bo k ∧ bo k ≤ 29) (h_a : -2147483648 ≤ a ∧ a ≤ 2147483647) (h_b : -2147483648 ≤ b ∧ b ≤ 2147483647) : MI yX0_onlyLooseIn wsX0_onlyLooseIn ({ frames := 1, cells := 0, slots := 0, locals := 24 } : Room) E [] 0 0 [.ref h0, .int (iI a), .int (iI b)] [(h0, oo 0 [.int (iI cn), .ref b1, .ref b2, .ref b3, .ref b4, .ref b5, .ref b6, .ref b7, .ref b8]), (b1, aI E 200 bo)] (fun r u => ∃ (x : Int), isO bo cn a b x ∧ r = iI x ∧ u = [(h0, oo 0 [.int (iI cn), .ref b1, .ref b2, .ref b3, .ref b4, .ref b5, .ref b6, .ref b7, .ref b8]), (b1, aI E 200 bo)]) := by
  refine MI.of (cc := cX0_onlyLooseIn) (maxL := 5) (own := RX0) (by decide) rfl rfl rfl (Nat.le_of_ble_eq_true rfl) [(0, .ref h0), (1, .int (iI a)), (2, .int (iI b))] rfl ?_
  intro X hin2 hRet
  refine g_bipush dX0_onlyLooseIn_0 rfl ?_
  refine g_istore_n (lv1 := [(3, .int (iI (-4))), (0, .ref h0), (1, .int (iI a)), (2, .int (iI b))]) dX0_onlyLooseIn_2 rfl (by decide) rfl ?_
  refine g_iload_n 2 dX0_onlyLooseIn_3 rfl rfl ?_
  refine g_iconst dX0_onlyLooseIn_4 ?_
  refine g_mmax (by unfold R32; omega) (by unfold R32; omega) (List.mem_of_getElem? (i := 1) rfl) (List.mem_of_getElem? (i := 2) rfl) (List.mem_of_getElem? (i := 3) rfl) (List.mem_of_getElem? (i := 4) rfl) (by decide) (Nat.le_of_ble_eq_true rfl) (by decide) dX0_onlyLooseIn_5 ?_
  refine g_istore (lv1 := [(4, .int (iI (max a 0))), (3, .int (iI (-4))), (0, .ref h0), (1, .int (iI a)), (2, .int (iI b))]) dX0_onlyLooseIn_8 (by decide) rfl ?_
  refine g_lv (lv1 := [(0, .ref h0), (1, .int (iI a)), (2, .int (iI b)), (3, .int (iI (-4))), (4, .int (iI (max a 0)))]) [2, 3, 4, 1, 0] rfl ?_
  have L10 : ∀ (nn : Nat) (i : Int) (w : Int) (hi : 0 ≤ i ∧ a ≤ i) (hir : i ≤ 2147483647) (hw : (w = -4 ∧ ∀ k, 0 ≤ k → a ≤ k → k < i → bo k ≠ -4) ∨ (0 ≤ w ∧ w < cn ∧ a ≤ w ∧ w ≤ b ∧ w < i ∧ bo w = -4 ∧ ∀ k, 0 ≤ k → a ≤ k → k < i → bo k = -4 → k = w)) (hm : max (cn - i) 0 < (nn : Int)), G X ({ frames := 1, cells := 0, slots := 0, locals := 24 } : Room) cX0_onlyLooseIn 5 RX0 wsX0_onlyLooseIn E [] 0 0 [(h0, oo 0 [.int (iI cn), .ref b1, .ref b2, .ref b3, .ref b4, .ref b5, .ref b6, .ref b7, .ref b8]), (b1, aI E 200 bo)] [(0, .ref h0), (1, .int (iI a)), (2, .int (iI b)), (3, .int (iI w)), (4, .int (iI i))] 10 [] := by
    intro nn
    induction nn with
    | zero => intro i w hi hir hw hm; exfalso; omega
    | succ nn ih10 =>
      intro i w hi hir hw hm
      refine g_iload 4 dX0_onlyLooseIn_10 rfl ?_
      refine g_aload_n 0 dX0_onlyLooseIn_12 rfl rfl ?_
      refine g_get (C := RX0) (T := TX0) (N := 9) 0 0 (fun _ h => List.mem_cons_of_mem _ (List.mem_append_right _ h)) (List.mem_of_getElem? (i := 5) rfl) rfl rfl (by decide) rfl rfl dX0_onlyLooseIn_13 ?_
      refine g_icmp_ge (tgt := 55) (by unfold R32; omega) (by unfold R32; omega) dX0_onlyLooseIn_16 rfl (fun c_1 => ?_) (fun c_1 => ?_)
      · refine g_iload_n 3 dX0_onlyLooseIn_55 rfl rfl ?_
        exact g_iret hRet dX0_onlyLooseIn_56 rfl ⟨w, (by rcases hw with ⟨w1, w2⟩ | ⟨w1, w2, w3, w4, w5, w6, w7⟩; left; refine ⟨w1, ?_⟩; rintro ⟨j, j1, j2, j3, j4, j5, j6⟩; exact w2 j j1 j3 (by omega) j5; right; exact ⟨w1, w2, w3, w4, w6, fun k k1 k2 k3 k4 k5 => w7 k k1 k3 (by omega) k5⟩), rfl, rfl⟩
      · refine g_iload 4 dX0_onlyLooseIn_19 rfl ?_
        refine g_iload_n 2 dX0_onlyLooseIn_21 rfl rfl ?_
        refine g_icmp_gt (tgt := 55) (by unfold R32; omega) (by unfold R32; omega) dX0_onlyLooseIn_22 rfl (fun c_2 => ?_) (fun c_2 => ?_)
        · refine g_iload_n 3 dX0_onlyLooseIn_55 rfl rfl ?_
          exact g_iret hRet dX0_onlyLooseIn_56 rfl ⟨w, (by rcases hw with ⟨w1, w2⟩ | ⟨w1, w2, w3, w4, w5, w6, w7⟩; left; refine ⟨w1, ?_⟩; rintro ⟨j, j1, j2, j3, j4, j5, j6⟩; exact w2 j j1 j3 (by omega) j5; right; exact ⟨w1, w2, w3, w4, w6, fun k k1 k2 k3 k4 k5 => w7 k k1 k3 (by omega) k5⟩), rfl, rfl⟩
        · refine g_aload_n 0 dX0_onlyLooseIn_25 rfl rfl ?_
          refine g_get (C := RX0) (T := TX0) (N := 9) 0 1 (fun _ h => List.mem_cons_of_mem _ (List.mem_append_right _ h)) (List.mem_of_getElem? (i := 6) rfl) rfl rfl (by decide) rfl rfl dX0_onlyLooseIn_26 ?_
          refine g_iload 4 dX0_onlyLooseIn_29 rfl ?_
          refine g_iald 1 dX0_onlyLooseIn_31 rfl (by decide) (by omega) (by omega) ?_
          have q_3 := hbo i
          refine g_bipush dX0_onlyLooseIn_32 rfl ?_
          refine g_icmp_ne (tgt := 49) (by unfold R32; omega) (by unfold R32; omega) dX0_onlyLooseIn_34 rfl (fun hne => ?_) (fun hne => ?_)
          · refine g_iload_n 3 dX0_onlyLooseIn_37 rfl rfl ?_
            refine g_bipush dX0_onlyLooseIn_38 rfl ?_
            refine g_icmp_eq (tgt := 46) (by rcases hw with ⟨w1, -⟩ | ⟨w1, w2, -⟩ <;> unfold R32 <;> omega) (by rcases hw with ⟨w1, -⟩ | ⟨w1, w2, -⟩ <;> unfold R32 <;> omega) dX0_onlyLooseIn_40 rfl (fun hw4 => ?_) (fun hw4 => ?_)
            · refine g_iload 4 dX0_onlyLooseIn_46 rfl ?_
              refine g_istore_n (lv1 := [(3, .int (iI i)), (0, .ref h0), (1, .int (iI a)), (2, .int (iI b)), (4, .int (iI i))]) dX0_onlyLooseIn_48 rfl (by decide) rfl ?_
              refine g_iinc (lv1 := [(4, .int (iI (i + 1))), (3, .int (iI i)), (0, .ref h0), (1, .int (iI a)), (2, .int (iI b))]) 4 dX0_onlyLooseIn_49 rfl (by decide) rfl ?_
              refine g_goto (tgt := 10) dX0_onlyLooseIn_52 rfl ?_
              refine g_lv (lv1 := [(0, .ref h0), (1, .int (iI a)), (2, .int (iI b)), (3, .int (iI i)), (4, .int (iI (i + 1)))]) [2, 3, 4, 1, 0] rfl ?_
              exact ih10 (i + 1) i (by omega) (by omega) (by right; refine ⟨by omega, by omega, by omega, by omega, by omega, hne, fun k k1 k2 k3 k4 => ?_⟩; rcases hw with ⟨w1, w2⟩ | ⟨w1, w2⟩; by_cases kk : k = i; exact kk; exact absurd k4 (w2 k k1 k2 (by omega)); omega) (by omega)
            · refine g_bipush dX0_onlyLooseIn_43 rfl ?_
              exact g_iret hRet dX0_onlyLooseIn_45 rfl ⟨(-4), (by rcases hw with ⟨w1, w2⟩ | ⟨w1, w2, w3, w4, w5, w6, w7⟩; exact absurd w1 hw4; left; refine ⟨rfl, ?_⟩; rintro ⟨j, j1, j2, j3, j4, j5, j6⟩; have e1 := j6 w w1 w2 w3 w4 w6; have e2 := j6 i (by omega) (by omega) (by omega) (by omega) hne; omega), rfl, rfl⟩
          · refine g_iinc (lv1 := [(4, .int (iI (i + 1))), (0, .ref h0), (1, .int (iI a)), (2, .int (iI b)), (3, .int (iI w))]) 4 dX0_onlyLooseIn_49 rfl (by decide) rfl ?_
            refine g_goto (tgt := 10) dX0_onlyLooseIn_52 rfl ?_
            refine g_lv (lv1 := [(0, .ref h0), (1, .int (iI a)), (2, .int (iI b)), (3, .int (iI w)), (4, .int (iI (i + 1)))]) [1, 2, 3, 4, 0] rfl ?_
            exact ih10 (i + 1) w (by omega) (by omega) (by rcases hw with ⟨w1, w2⟩ | ⟨w1, w2, w3, w4, w5, w6, w7⟩; left; refine ⟨w1, fun k k1 k2 k3 => ?_⟩; by_cases kk : k = i; rw [kk]; exact hne; exact w2 k k1 k2 (by omega); right; refine ⟨w1, w2, w3, w4, by omega, w6, fun k k1 k2 k3 k4 => ?_⟩; by_cases kk : k = i; rw [kk] at k4; exact absurd k4 hne; exact w7 k k1 k2 (by omega) k4) (by omega)
  exact L10 _ (max a 0) (-4) (by omega) (by omega) (by left; refine ⟨rfl, fun k k1 k2 k3 => ?_⟩; omega) (lt_nn _)

theorem isL_b {bo : Int → Int} {cn box r : Int} (h : isL bo cn box r) : -4 ≤ r ∧ (r < cn ∨ r = -4) := by rcases h with ⟨h, -⟩ | ⟨h1, h2, -⟩ <;> omega
theorem isG_b {bo : Int → Int} {cn box r : Int} (h : isG bo cn box r) : -4 ≤ r ∧ (r < cn ∨ r = -4) := by rcases h with ⟨h, -⟩ | ⟨h1, h2, -⟩ <;> omega
theorem isO_b {bo : Int → Int} {cn a b r : Int} (h : isO bo cn a b r) : -4 ≤ r ∧ (r < cn ∨ r = -4) := by rcases h with ⟨h, -⟩ | ⟨h1, h2, -⟩ <;> omega
def sLost (cn : Int) (bo cl un : Int → Int) (box size x : Int) (bo' un' cl' : Int → Int) : Prop :=
  if cl box ≠ 0 ∨ un box ≠ size - 1 then x = -2 ∧ bo' = bo ∧ un' = un ∧ cl' = cl else ∃ l g r, isL bo cn box l ∧ isG bo cn box g ∧ isO bo cn l g r ∧ (if 0 ≤ r ∧ r ≤ cn - 1 then x = r ∧ bo' = up bo r box ∧ un' = up un box (un box + 1) ∧ cl' = up cl box 1 else x = -2 ∧ bo' = bo ∧ un' = un ∧ cl' = cl)
theorem brk_s1 {bo : Int → Int} {i box : Int} (h : bo i = box) (h0 : 0 ≤ i) : up (brk bo i box) i (-4) = brk bo (i + 1) box := by
  funext k; unfold up brk
  by_cases hk : k = i
  · subst hk; rw [if_pos rfl, if_pos ⟨h0, by omega, h⟩]
  · rw [if_neg hk]
    by_cases hc : 0 ≤ k ∧ k < i ∧ bo k = box
    · rw [if_pos hc, if_pos ⟨hc.1, by omega, hc.2.2⟩]
    · rw [if_neg hc, if_neg (fun q => hc ⟨q.1, by omega, q.2.2⟩)]
theorem brk_s2 {bo : Int → Int} {i box : Int} (h : ¬ bo i = box) : brk bo i box = brk bo (i + 1) box := by
  funext k; unfold brk
  by_cases hc : 0 ≤ k ∧ k < i ∧ bo k = box
  · rw [if_pos hc, if_pos ⟨hc.1, by omega, hc.2.2⟩]
  · rw [if_neg hc, if_neg (fun q => ?_)]
    have hk : k ≠ i := fun e => h (e ▸ q.2.2)
    exact hc ⟨q.1, by omega, q.2.2⟩
theorem brk_0 (bo : Int → Int) (box : Int) : bo = brk bo 0 box := by
  funext k; unfold brk; rw [if_neg (by omega)]
theorem brk_at (bo : Int → Int) (i box : Int) : brk bo i box i = bo i := by unfold brk; rw [if_neg (by omega)]
def sBrkB (cn : Int) (bo cl un pl : Int → Int) (box x : Int) (bo' un' cl' : Int → Int) : Prop :=
  if pl box ≠ -4 then x = -2 ∧ bo' = bo ∧ un' = un ∧ cl' = cl else x = un box ∧ bo' = brk bo cn box ∧ un' = up un box 0 ∧ cl' = up cl box 0
def pOf (bo pl : Int → Int) (k : Int) : Int := if 0 ≤ bo k ∧ bo k ≤ 29 then pl (bo k) else -4

set_option maxHeartbeats 4000000 in
set_option maxRecDepth 100000 in
theorem c_X0_closeWithLost (E : Ev) (h0 : Nat) (b1 : Nat) (b2 : Nat) (b3 : Nat) (b4 : Nat) (b5 : Nat) (b6 : Nat) (b7 : Nat) (b8 : Nat) (cn : Int) (bo : Int → Int) (un : Int → Int) (cl : Int → Int) (box : Int) (size : Int) (hcn : 0 ≤ cn ∧ cn ≤ 200) (hbo : ∀ k, -4 ≤ bo k ∧ bo k ≤ 29) (hun : ∀ k, 0 ≤ un k ∧ un k ≤ 200) (hcl : ∀ k, 0 ≤ cl k ∧ cl k ≤ 1) (h_box : -2147483648 ≤ box ∧ box ≤ 2147483647) (h_size : -2147483648 ≤ size ∧ size ≤ 2147483647) (hr_box : 0 ≤ box ∧ box < 30) (hsz : 1 ≤ size ∧ size ≤ 12) : MI yX0_closeWithLost wsX0_closeWithLost ({ frames := 2, cells := 0, slots := 0, locals := 48 } : Room) E [] 0 0 [.ref h0, .int (iI box), .int (iI size)] [(h0, oo 0 [.int (iI cn), .ref b1, .ref b2, .ref b3, .ref b4, .ref b5, .ref b6, .ref b7, .ref b8]), (b1, aI E 200 bo), (b4, aI E 30 un), (b5, aZ E 30 cl)] (fun r u => ∃ (x : Int), ∃ (bo' : Int → Int), ∃ (un' : Int → Int), ∃ (cl' : Int → Int), sLost cn bo cl un box size x bo' un' cl' ∧ r = iI x ∧ u = [(h0, oo 0 [.int (iI cn), .ref b1, .ref b2, .ref b3, .ref b4, .ref b5, .ref b6, .ref b7, .ref b8]), (b1, aI E 200 bo'), (b4, aI E 30 un'), (b5, aZ E 30 cl')]) := by
  refine MI.of (cc := cX0_closeWithLost) (maxL := 4) (own := RX0) (by decide) rfl rfl rfl (Nat.le_of_ble_eq_true rfl) [(0, .ref h0), (1, .int (iI box)), (2, .int (iI size))] rfl ?_
  intro X hin2 hRet
  refine g_aload_n 0 dX0_closeWithLost_0 rfl rfl ?_
  refine g_get (C := RX0) (T := TX0) (N := 9) 0 5 (fun _ h => List.mem_cons_of_mem _ (List.mem_append_right _ h)) (List.mem_of_getElem? (i := 1) rfl) rfl rfl (by decide) rfl rfl dX0_closeWithLost_1 ?_
  refine g_iload_n 1 dX0_closeWithLost_4 rfl rfl ?_
  refine g_zald 3 dX0_closeWithLost_5 rfl (by decide) (by omega) (by omega) ?_
  have q_1 := hcl box
  refine g_if_ne (tgt := 21) (by unfold R32; omega) dX0_closeWithLost_6 rfl (fun c_2 => ?_) (fun c_2 => ?_)
  · refine g_aload_n 0 dX0_closeWithLost_9 rfl rfl ?_
    refine g_get (C := RX0) (T := TX0) (N := 9) 0 4 (fun _ h => List.mem_cons_of_mem _ (List.mem_append_right _ h)) (List.mem_of_getElem? (i := 2) rfl) rfl rfl (by decide) rfl rfl dX0_closeWithLost_10 ?_
    refine g_iload_n 1 dX0_closeWithLost_13 rfl rfl ?_
    refine g_iald 2 dX0_closeWithLost_14 rfl (by decide) (by omega) (by omega) ?_
    have q_3 := hun box
    refine g_iload_n 2 dX0_closeWithLost_15 rfl rfl ?_
    refine g_iconst dX0_closeWithLost_16 ?_
    refine g_isub dX0_closeWithLost_17 ?_
    refine g_icmp_eq (tgt := 24) (by unfold R32; omega) (by unfold R32; omega) dX0_closeWithLost_18 rfl (fun c_4 => ?_) (fun c_4 => ?_)
    · refine g_aload_n 0 dX0_closeWithLost_24 rfl rfl ?_
      refine g_aload_n 0 dX0_closeWithLost_25 rfl rfl ?_
      refine g_iload_n 1 dX0_closeWithLost_26 rfl rfl ?_
      refine g_callV_i (n := 1) (As := [.int (iI box)]) (wr := [(b4, aI E 30 un), (b5, aZ E 30 cl)]) (C := RX0) [.ref h0] (c_X0_leastIn E h0 b1 b2 b3 b4 b5 b6 b7 b8 cn bo box (by omega) (by omega) (by omega)) [0, 1] [2, 3] 0 rfl rfl gX0_closeWithLost_X0_leastIn rfl ⟨rfl, by decide +kernel⟩ ⟨by decide, by decide⟩ rfl rfl rfl rfl rfl (by decide) rfl (by decide) (by decide) (fun _ h => absurd h List.not_mem_nil) dX0_closeWithLost_27 rfl (Nat.le_of_ble_eq_true rfl) ⟨by decide, by decide⟩ (fun r u p_5 => ?_)
      obtain ⟨xl, fl, rfl, rfl⟩ := p_5
      refine g_perm (ws1 := [(h0, oo 0 [.int (iI cn), .ref b1, .ref b2, .ref b3, .ref b4, .ref b5, .ref b6, .ref b7, .ref b8]), (b1, aI E 200 bo), (b4, aI E 30 un), (b5, aZ E 30 cl)]) [2, 3, 0, 1] rfl (by decide) rfl ?_
      have bl := isL_b fl
      refine g_aload_n 0 dX0_closeWithLost_30 rfl rfl ?_
      refine g_iload_n 1 dX0_closeWithLost_31 rfl rfl ?_
      refine g_callV_i (n := 1) (As := [.int (iI box)]) (wr := [(b4, aI E 30 un), (b5, aZ E 30 cl)]) (C := RX0) [.int (iI xl), .ref h0] (c_X0_greatestIn E h0 b1 b2 b3 b4 b5 b6 b7 b8 cn bo box (by omega) (by omega) (by omega)) [0, 1] [2, 3] 0 rfl rfl gX0_closeWithLost_X0_greatestIn rfl ⟨rfl, by decide +kernel⟩ ⟨by decide, by decide⟩ rfl rfl rfl rfl rfl (by decide) rfl (by decide) (by decide) (fun _ h => absurd h List.not_mem_nil) dX0_closeWithLost_32 rfl (Nat.le_of_ble_eq_true rfl) ⟨by decide, by decide⟩ (fun r u p_6 => ?_)
      obtain ⟨xg, fg, rfl, rfl⟩ := p_6
      refine g_perm (ws1 := [(h0, oo 0 [.int (iI cn), .ref b1, .ref b2, .ref b3, .ref b4, .ref b5, .ref b6, .ref b7, .ref b8]), (b1, aI E 200 bo), (b4, aI E 30 un), (b5, aZ E 30 cl)]) [2, 3, 0, 1] rfl (by decide) rfl ?_
      have bg := isG_b fg
      refine g_callV_i (n := 2) (As := [.int (iI xl), .int (iI xg)]) (wr := [(b4, aI E 30 un), (b5, aZ E 30 cl)]) (C := RX0) [] (c_X0_onlyLooseIn E h0 b1 b2 b3 b4 b5 b6 b7 b8 cn bo xl xg (by omega) (by omega) (by omega) (by omega)) [0, 1] [2, 3] 0 rfl rfl gX0_closeWithLost_X0_onlyLooseIn rfl ⟨rfl, by decide +kernel⟩ ⟨by decide, by decide⟩ rfl rfl rfl rfl rfl (by decide) rfl (by decide) (by decide) (fun _ h => absurd h List.not_mem_nil) dX0_closeWithLost_35 rfl (Nat.le_of_ble_eq_true rfl) ⟨by decide, by decide⟩ (fun r u p_7 => ?_)
      obtain ⟨xo, fo, rfl, rfl⟩ := p_7
      refine g_perm (ws1 := [(h0, oo 0 [.int (iI cn), .ref b1, .ref b2, .ref b3, .ref b4, .ref b5, .ref b6, .ref b7, .ref b8]), (b1, aI E 200 bo), (b4, aI E 30 un), (b5, aZ E 30 cl)]) [2, 3, 0, 1] rfl (by decide) rfl ?_
      have bq := isO_b fo
      refine g_istore_n (lv1 := [(3, .int (iI xo)), (0, .ref h0), (1, .int (iI box)), (2, .int (iI size))]) dX0_closeWithLost_38 rfl (by decide) rfl ?_
      refine g_aload_n 1 dX0_closeWithLost_39 rfl rfl ?_
      refine g_iload_n 0 dX0_closeWithLost_40 rfl rfl ?_
      refine g_callV_i (n := 1) (As := [.int (iI xo)]) (wr := [(b1, aI E 200 bo), (b4, aI E 30 un), (b5, aZ E 30 cl)]) (C := RX0) [] (c_X0_known E h0 b1 b2 b3 b4 b5 b6 b7 b8 cn xo (by omega) (by omega)) [0] [1, 2, 3] 0 rfl rfl gX0_closeWithLost_X0_known rfl ⟨rfl, by decide +kernel⟩ ⟨by decide, by decide⟩ rfl rfl rfl rfl rfl (by decide) rfl (by decide) (by decide) (fun _ h => absurd h List.not_mem_nil) dX0_closeWithLost_41 rfl (Nat.le_of_ble_eq_true rfl) ⟨by decide, by decide⟩ (fun r u p_8 => ?_)
      obtain ⟨rfl, rfl⟩ := p_8
      refine g_perm (ws1 := [(h0, oo 0 [.int (iI cn), .ref b1, .ref b2, .ref b3, .ref b4, .ref b5, .ref b6, .ref b7, .ref b8]), (b1, aI E 200 bo), (b4, aI E 30 un), (b5, aZ E 30 cl)]) [3, 0, 1, 2] rfl (by decide) rfl ?_
      refine g_if_ne_b (tgt := 50) dX0_closeWithLost_44 rfl (fun c_9 => ?_) (fun c_9 => ?_)
      · refine g_aload_n 1 dX0_closeWithLost_50 rfl rfl ?_
        refine g_get (C := RX0) (T := TX0) (N := 9) 0 1 (fun _ h => List.mem_cons_of_mem _ (List.mem_append_right _ h)) (List.mem_of_getElem? (i := 3) rfl) rfl rfl (by decide) rfl rfl dX0_closeWithLost_51 ?_
        refine g_iload_n 0 dX0_closeWithLost_54 rfl rfl ?_
        refine g_iload_n 2 dX0_closeWithLost_55 rfl rfl ?_
        refine g_iast (ws1 := [(h0, oo 0 [.int (iI cn), .ref b1, .ref b2, .ref b3, .ref b4, .ref b5, .ref b6, .ref b7, .ref b8]), (b1, aI E 200 (up bo xo box)), (b4, aI E 30 un), (b5, aZ E 30 cl)]) 1 dX0_closeWithLost_56 rfl rfl (by decide) (by omega) (by omega) ?_
        refine g_aload_n 1 dX0_closeWithLost_57 rfl rfl ?_
        refine g_get (C := RX0) (T := TX0) (N := 9) 0 4 (fun _ h => List.mem_cons_of_mem _ (List.mem_append_right _ h)) (List.mem_of_getElem? (i := 2) rfl) rfl rfl (by decide) rfl rfl dX0_closeWithLost_58 ?_
        refine g_iload_n 2 dX0_closeWithLost_61 rfl rfl ?_
        refine g_dup2 dX0_closeWithLost_62 rfl rfl ?_
        refine g_iald 2 dX0_closeWithLost_63 rfl (by decide) (by omega) (by omega) ?_
        have q_10 := hun box
        refine g_iconst dX0_closeWithLost_64 ?_
        refine g_iadd dX0_closeWithLost_65 ?_
        refine g_iast (ws1 := [(h0, oo 0 [.int (iI cn), .ref b1, .ref b2, .ref b3, .ref b4, .ref b5, .ref b6, .ref b7, .ref b8]), (b1, aI E 200 (up bo xo box)), (b4, aI E 30 (up un box ((un box) + 1))), (b5, aZ E 30 cl)]) 2 dX0_closeWithLost_66 rfl rfl (by decide) (by omega) (by omega) ?_
        refine g_aload_n 1 dX0_closeWithLost_67 rfl rfl ?_
        refine g_get (C := RX0) (T := TX0) (N := 9) 0 5 (fun _ h => List.mem_cons_of_mem _ (List.mem_append_right _ h)) (List.mem_of_getElem? (i := 1) rfl) rfl rfl (by decide) rfl rfl dX0_closeWithLost_68 ?_
        refine g_iload_n 2 dX0_closeWithLost_71 rfl rfl ?_
        refine g_iconst dX0_closeWithLost_72 ?_
        refine g_zast (ws1 := [(h0, oo 0 [.int (iI cn), .ref b1, .ref b2, .ref b3, .ref b4, .ref b5, .ref b6, .ref b7, .ref b8]), (b1, aI E 200 (up bo xo box)), (b4, aI E 30 (up un box ((un box) + 1))), (b5, aZ E 30 (up cl box 1))]) 3 dX0_closeWithLost_73 rfl (by omega) rfl (by decide) (by omega) (by omega) ?_
        refine g_iload_n 0 dX0_closeWithLost_74 rfl rfl ?_
        exact g_iret hRet dX0_closeWithLost_75 rfl ⟨xo, (up bo xo box), (up un box ((un box) + 1)), (up cl box 1), (by unfold sLost; rw [if_neg (by omega)]; refine ⟨xl, xg, xo, fl, fg, fo, ?_⟩; rw [if_pos (by omega)]; exact ⟨rfl, rfl, rfl, rfl⟩), rfl, rfl⟩
      · refine g_bipush dX0_closeWithLost_47 rfl ?_
        exact g_iret hRet dX0_closeWithLost_49 rfl ⟨(-2), bo, un, cl, (by unfold sLost; rw [if_neg (by omega)]; refine ⟨xl, xg, xo, fl, fg, fo, ?_⟩; rw [if_neg (by omega)]; exact ⟨rfl, rfl, rfl, rfl⟩), rfl, rfl⟩
    · refine g_bipush dX0_closeWithLost_21 rfl ?_
      exact g_iret hRet dX0_closeWithLost_23 rfl ⟨(-2), bo, un, cl, (by unfold sLost; rw [if_pos (by omega)]; exact ⟨rfl, rfl, rfl, rfl⟩), rfl, rfl⟩
  · refine g_bipush dX0_closeWithLost_21 rfl ?_
    exact g_iret hRet dX0_closeWithLost_23 rfl ⟨(-2), bo, un, cl, (by unfold sLost; rw [if_pos (by omega)]; exact ⟨rfl, rfl, rfl, rfl⟩), rfl, rfl⟩

set_option maxHeartbeats 4000000 in
set_option maxRecDepth 100000 in
theorem c_X0_stackOn (E : Ev) (h0 : Nat) (b1 : Nat) (b2 : Nat) (b3 : Nat) (b4 : Nat) (b5 : Nat) (b6 : Nat) (b7 : Nat) (b8 : Nat) (cn : Int) (cl : Int → Int) (pl : Int → Int) (on : Int → Int) (se : Int → Int) (box : Int) (pal : Int) (high : Int) (hcn : 0 ≤ cn ∧ cn ≤ 200) (hcl : ∀ k, 0 ≤ cl k ∧ cl k ≤ 1) (hpl : ∀ k, -4 ≤ pl k ∧ pl k ≤ 5) (hon : ∀ k, 0 ≤ on k ∧ on k ≤ 30) (hse : ∀ k, 0 ≤ se k ∧ se k ≤ 1) (h_box : -2147483648 ≤ box ∧ box ≤ 2147483647) (h_pal : -2147483648 ≤ pal ∧ pal ≤ 2147483647) (h_high : -2147483648 ≤ high ∧ high ≤ 2147483647) (hr_box : 0 ≤ box ∧ box < 30) (hr_pal : 0 ≤ pal ∧ pal < 6) : MI yX0_stackOn wsX0_stackOn ({ frames := 0, cells := 0, slots := 0, locals := 0 } : Room) E [] 0 0 [.ref h0, .int (iI box), .int (iI pal), .int (iI high)] [(h0, oo 0 [.int (iI cn), .ref b1, .ref b2, .ref b3, .ref b4, .ref b5, .ref b6, .ref b7, .ref b8]), (b5, aZ E 30 cl), (b6, aI E 30 pl), (b7, aI E 6 on), (b8, aZ E 6 se)] (fun r u => ∃ (x : Int), ∃ (pl' : Int → Int), ∃ (on' : Int → Int), sStack cl pl se on box pal high x pl' on' ∧ r = iI x ∧ u = [(h0, oo 0 [.int (iI cn), .ref b1, .ref b2, .ref b3, .ref b4, .ref b5, .ref b6, .ref b7, .ref b8]), (b5, aZ E 30 cl), (b6, aI E 30 pl'), (b7, aI E 6 on'), (b8, aZ E 6 se)]) := by
  refine MI.of (cc := cX0_stackOn) (maxL := 4) (own := RX0) (by decide) rfl rfl rfl (Nat.le_of_ble_eq_true rfl) [(0, .ref h0), (1, .int (iI box)), (2, .int (iI pal)), (3, .int (iI high))] rfl ?_
  intro X hin2 hRet
  refine g_aload_n 0 dX0_stackOn_0 rfl rfl ?_
  refine g_get (C := RX0) (T := TX0) (N := 9) 0 5 (fun _ h => List.mem_cons_of_mem _ (List.mem_append_right _ h)) (List.mem_of_getElem? (i := 1) rfl) rfl rfl (by decide) rfl rfl dX0_stackOn_1 ?_
  refine g_iload_n 1 dX0_stackOn_4 rfl rfl ?_
  refine g_zald 1 dX0_stackOn_5 rfl (by decide) (by omega) (by omega) ?_
  have q_1 := hcl box
  refine g_if_eq (tgt := 29) (by unfold R32; omega) dX0_stackOn_6 rfl (fun c_2 => ?_) (fun c_2 => ?_)
  · refine g_bipush dX0_stackOn_29 rfl ?_
    exact g_iret hRet dX0_stackOn_31 rfl ⟨(-2), pl, on, (by (unfold sStack; (repeat' split) <;> first | (exfalso; omega) | exact ⟨rfl, rfl, rfl⟩ | (refine ⟨?_, ?_, ?_⟩ <;> first | rfl | omega | (simp only [up_s]; done)))), rfl, rfl⟩
  · refine g_aload_n 0 dX0_stackOn_9 rfl rfl ?_
    refine g_get (C := RX0) (T := TX0) (N := 9) 0 6 (fun _ h => List.mem_cons_of_mem _ (List.mem_append_right _ h)) (List.mem_of_getElem? (i := 2) rfl) rfl rfl (by decide) rfl rfl dX0_stackOn_10 ?_
    refine g_iload_n 1 dX0_stackOn_13 rfl rfl ?_
    refine g_iald 2 dX0_stackOn_14 rfl (by decide) (by omega) (by omega) ?_
    have q_3 := hpl box
    refine g_bipush dX0_stackOn_15 rfl ?_
    refine g_icmp_ne (tgt := 29) (by unfold R32; omega) (by unfold R32; omega) dX0_stackOn_17 rfl (fun c_4 => ?_) (fun c_4 => ?_)
    · refine g_aload_n 0 dX0_stackOn_20 rfl rfl ?_
      refine g_get (C := RX0) (T := TX0) (N := 9) 0 8 (fun _ h => List.mem_cons_of_mem _ (List.mem_append_right _ h)) (List.mem_of_getElem? (i := 3) rfl) rfl rfl (by decide) rfl rfl dX0_stackOn_21 ?_
      refine g_iload_n 2 dX0_stackOn_24 rfl rfl ?_
      refine g_zald 4 dX0_stackOn_25 rfl (by decide) (by omega) (by omega) ?_
      have q_5 := hse pal
      refine g_if_eq (tgt := 32) (by unfold R32; omega) dX0_stackOn_26 rfl (fun c_6 => ?_) (fun c_6 => ?_)
      · refine g_aload_n 0 dX0_stackOn_32 rfl rfl ?_
        refine g_get (C := RX0) (T := TX0) (N := 9) 0 7 (fun _ h => List.mem_cons_of_mem _ (List.mem_append_right _ h)) (List.mem_of_getElem? (i := 4) rfl) rfl rfl (by decide) rfl rfl dX0_stackOn_33 ?_
        refine g_iload_n 2 dX0_stackOn_36 rfl rfl ?_
        refine g_iald 3 dX0_stackOn_37 rfl (by decide) (by omega) (by omega) ?_
        have q_7 := hon pal
        refine g_iload_n 3 dX0_stackOn_38 rfl rfl ?_
        refine g_icmp_lt (tgt := 45) (by unfold R32; omega) (by unfold R32; omega) dX0_stackOn_39 rfl (fun c_8 => ?_) (fun c_8 => ?_)
        · refine g_aload_n 0 dX0_stackOn_45 rfl rfl ?_
          refine g_get (C := RX0) (T := TX0) (N := 9) 0 6 (fun _ h => List.mem_cons_of_mem _ (List.mem_append_right _ h)) (List.mem_of_getElem? (i := 2) rfl) rfl rfl (by decide) rfl rfl dX0_stackOn_46 ?_
          refine g_iload_n 1 dX0_stackOn_49 rfl rfl ?_
          refine g_iload_n 2 dX0_stackOn_50 rfl rfl ?_
          refine g_iast (ws1 := [(h0, oo 0 [.int (iI cn), .ref b1, .ref b2, .ref b3, .ref b4, .ref b5, .ref b6, .ref b7, .ref b8]), (b5, aZ E 30 cl), (b6, aI E 30 (up pl box pal)), (b7, aI E 6 on), (b8, aZ E 6 se)]) 2 dX0_stackOn_51 rfl rfl (by decide) (by omega) (by omega) ?_
          refine g_aload_n 0 dX0_stackOn_52 rfl rfl ?_
          refine g_get (C := RX0) (T := TX0) (N := 9) 0 7 (fun _ h => List.mem_cons_of_mem _ (List.mem_append_right _ h)) (List.mem_of_getElem? (i := 4) rfl) rfl rfl (by decide) rfl rfl dX0_stackOn_53 ?_
          refine g_iload_n 2 dX0_stackOn_56 rfl rfl ?_
          refine g_dup2 dX0_stackOn_57 rfl rfl ?_
          refine g_iald 3 dX0_stackOn_58 rfl (by decide) (by omega) (by omega) ?_
          have q_9 := hon pal
          refine g_iconst dX0_stackOn_59 ?_
          refine g_iadd dX0_stackOn_60 ?_
          refine g_iast (ws1 := [(h0, oo 0 [.int (iI cn), .ref b1, .ref b2, .ref b3, .ref b4, .ref b5, .ref b6, .ref b7, .ref b8]), (b5, aZ E 30 cl), (b6, aI E 30 (up pl box pal)), (b7, aI E 6 (up on pal ((on pal) + 1))), (b8, aZ E 6 se)]) 3 dX0_stackOn_61 rfl rfl (by decide) (by omega) (by omega) ?_
          refine g_aload_n 0 dX0_stackOn_62 rfl rfl ?_
          refine g_get (C := RX0) (T := TX0) (N := 9) 0 7 (fun _ h => List.mem_cons_of_mem _ (List.mem_append_right _ h)) (List.mem_of_getElem? (i := 4) rfl) rfl rfl (by decide) rfl rfl dX0_stackOn_63 ?_
          refine g_iload_n 2 dX0_stackOn_66 rfl rfl ?_
          refine g_iald 3 dX0_stackOn_67 rfl (by decide) (by omega) (by omega) ?_
          exact g_iret hRet dX0_stackOn_68 rfl ⟨((up on pal ((on pal) + 1)) pal), (up pl box pal), (up on pal ((on pal) + 1)), (by (unfold sStack; (repeat' split) <;> first | (exfalso; omega) | exact ⟨rfl, rfl, rfl⟩ | (refine ⟨?_, ?_, ?_⟩ <;> first | rfl | omega | (simp only [up_s]; done)))), rfl, rfl⟩
        · refine g_bipush dX0_stackOn_42 rfl ?_
          exact g_iret hRet dX0_stackOn_44 rfl ⟨(-3), pl, on, (by (unfold sStack; (repeat' split) <;> first | (exfalso; omega) | exact ⟨rfl, rfl, rfl⟩ | (refine ⟨?_, ?_, ?_⟩ <;> first | rfl | omega | (simp only [up_s]; done)))), rfl, rfl⟩
      · refine g_bipush dX0_stackOn_29 rfl ?_
        exact g_iret hRet dX0_stackOn_31 rfl ⟨(-2), pl, on, (by (unfold sStack; (repeat' split) <;> first | (exfalso; omega) | exact ⟨rfl, rfl, rfl⟩ | (refine ⟨?_, ?_, ?_⟩ <;> first | rfl | omega | (simp only [up_s]; done)))), rfl, rfl⟩
    · refine g_bipush dX0_stackOn_29 rfl ?_
      exact g_iret hRet dX0_stackOn_31 rfl ⟨(-2), pl, on, (by (unfold sStack; (repeat' split) <;> first | (exfalso; omega) | exact ⟨rfl, rfl, rfl⟩ | (refine ⟨?_, ?_, ?_⟩ <;> first | rfl | omega | (simp only [up_s]; done)))), rfl, rfl⟩

set_option maxHeartbeats 4000000 in
set_option maxRecDepth 100000 in
theorem c_X0_sealPallet (E : Ev) (h0 : Nat) (b1 : Nat) (b2 : Nat) (b3 : Nat) (b4 : Nat) (b5 : Nat) (b6 : Nat) (b7 : Nat) (b8 : Nat) (cn : Int) (on : Int → Int) (se : Int → Int) (pal : Int) (hcn : 0 ≤ cn ∧ cn ≤ 200) (hon : ∀ k, 0 ≤ on k ∧ on k ≤ 30) (hse : ∀ k, 0 ≤ se k ∧ se k ≤ 1) (h_pal : -2147483648 ≤ pal ∧ pal ≤ 2147483647) (hr_pal : 0 ≤ pal ∧ pal < 6) : MI yX0_sealPallet wsX0_sealPallet ({ frames := 0, cells := 0, slots := 0, locals := 0 } : Room) E [] 0 0 [.ref h0, .int (iI pal)] [(h0, oo 0 [.int (iI cn), .ref b1, .ref b2, .ref b3, .ref b4, .ref b5, .ref b6, .ref b7, .ref b8]), (b7, aI E 6 on), (b8, aZ E 6 se)] (fun r u => ∃ (x : Int), ∃ (se' : Int → Int), sSeal on se pal x se' ∧ r = iI x ∧ u = [(h0, oo 0 [.int (iI cn), .ref b1, .ref b2, .ref b3, .ref b4, .ref b5, .ref b6, .ref b7, .ref b8]), (b7, aI E 6 on), (b8, aZ E 6 se')]) := by
  refine MI.of (cc := cX0_sealPallet) (maxL := 2) (own := RX0) (by decide) rfl rfl rfl (Nat.le_of_ble_eq_true rfl) [(0, .ref h0), (1, .int (iI pal))] rfl ?_
  intro X hin2 hRet
  refine g_aload_n 0 dX0_sealPallet_0 rfl rfl ?_
  refine g_get (C := RX0) (T := TX0) (N := 9) 0 8 (fun _ h => List.mem_cons_of_mem _ (List.mem_append_right _ h)) (List.mem_of_getElem? (i := 1) rfl) rfl rfl (by decide) rfl rfl dX0_sealPallet_1 ?_
  refine g_iload_n 1 dX0_sealPallet_4 rfl rfl ?_
  refine g_zald 2 dX0_sealPallet_5 rfl (by decide) (by omega) (by omega) ?_
  have q_1 := hse pal
  refine g_if_ne (tgt := 18) (by unfold R32; omega) dX0_sealPallet_6 rfl (fun c_2 => ?_) (fun c_2 => ?_)
  · refine g_aload_n 0 dX0_sealPallet_9 rfl rfl ?_
    refine g_get (C := RX0) (T := TX0) (N := 9) 0 7 (fun _ h => List.mem_cons_of_mem _ (List.mem_append_right _ h)) (List.mem_of_getElem? (i := 2) rfl) rfl rfl (by decide) rfl rfl dX0_sealPallet_10 ?_
    refine g_iload_n 1 dX0_sealPallet_13 rfl rfl ?_
    refine g_iald 1 dX0_sealPallet_14 rfl (by decide) (by omega) (by omega) ?_
    have q_3 := hon pal
    refine g_if_ne (tgt := 21) (by unfold R32; omega) dX0_sealPallet_15 rfl (fun c_4 => ?_) (fun c_4 => ?_)
    · refine g_bipush dX0_sealPallet_18 rfl ?_
      exact g_iret hRet dX0_sealPallet_20 rfl ⟨(-2), se, (by (unfold sSeal; (repeat' split) <;> first | (exfalso; omega) | exact ⟨rfl, rfl⟩ | (refine ⟨?_, ?_⟩ <;> first | rfl | omega | (simp only [up_s]; done)))), rfl, rfl⟩
    · refine g_aload_n 0 dX0_sealPallet_21 rfl rfl ?_
      refine g_get (C := RX0) (T := TX0) (N := 9) 0 8 (fun _ h => List.mem_cons_of_mem _ (List.mem_append_right _ h)) (List.mem_of_getElem? (i := 1) rfl) rfl rfl (by decide) rfl rfl dX0_sealPallet_22 ?_
      refine g_iload_n 1 dX0_sealPallet_25 rfl rfl ?_
      refine g_iconst dX0_sealPallet_26 ?_
      refine g_zast (ws1 := [(h0, oo 0 [.int (iI cn), .ref b1, .ref b2, .ref b3, .ref b4, .ref b5, .ref b6, .ref b7, .ref b8]), (b7, aI E 6 on), (b8, aZ E 6 (up se pal 1))]) 2 dX0_sealPallet_27 rfl (by omega) rfl (by decide) (by omega) (by omega) ?_
      refine g_aload_n 0 dX0_sealPallet_28 rfl rfl ?_
      refine g_get (C := RX0) (T := TX0) (N := 9) 0 7 (fun _ h => List.mem_cons_of_mem _ (List.mem_append_right _ h)) (List.mem_of_getElem? (i := 2) rfl) rfl rfl (by decide) rfl rfl dX0_sealPallet_29 ?_
      refine g_iload_n 1 dX0_sealPallet_32 rfl rfl ?_
      refine g_iald 1 dX0_sealPallet_33 rfl (by decide) (by omega) (by omega) ?_
      have q_5 := hon pal
      exact g_iret hRet dX0_sealPallet_34 rfl ⟨(on pal), (up se pal 1), (by (unfold sSeal; (repeat' split) <;> first | (exfalso; omega) | exact ⟨rfl, rfl⟩ | (refine ⟨?_, ?_⟩ <;> first | rfl | omega | (simp only [up_s]; done)))), rfl, rfl⟩
  · refine g_bipush dX0_sealPallet_18 rfl ?_
    exact g_iret hRet dX0_sealPallet_20 rfl ⟨(-2), se, (by (unfold sSeal; (repeat' split) <;> first | (exfalso; omega) | exact ⟨rfl, rfl⟩ | (refine ⟨?_, ?_⟩ <;> first | rfl | omega | (simp only [up_s]; done)))), rfl, rfl⟩

set_option maxHeartbeats 4000000 in
set_option maxRecDepth 100000 in
theorem c_X0_breakBox (E : Ev) (h0 : Nat) (b1 : Nat) (b2 : Nat) (b3 : Nat) (b4 : Nat) (b5 : Nat) (b6 : Nat) (b7 : Nat) (b8 : Nat) (cn : Int) (bo : Int → Int) (un : Int → Int) (cl : Int → Int) (pl : Int → Int) (box : Int) (hcn : 0 ≤ cn ∧ cn ≤ 200) (hbo : ∀ k, -4 ≤ bo k ∧ bo k ≤ 29) (hun : ∀ k, 0 ≤ un k ∧ un k ≤ 200) (hcl : ∀ k, 0 ≤ cl k ∧ cl k ≤ 1) (hpl : ∀ k, -4 ≤ pl k ∧ pl k ≤ 5) (h_box : -2147483648 ≤ box ∧ box ≤ 2147483647) (hr_box : 0 ≤ box ∧ box < 30) : MI yX0_breakBox wsX0_breakBox ({ frames := 0, cells := 0, slots := 0, locals := 0 } : Room) E [] 0 0 [.ref h0, .int (iI box)] [(h0, oo 0 [.int (iI cn), .ref b1, .ref b2, .ref b3, .ref b4, .ref b5, .ref b6, .ref b7, .ref b8]), (b1, aI E 200 bo), (b4, aI E 30 un), (b5, aZ E 30 cl), (b6, aI E 30 pl)] (fun r u => ∃ (x : Int), ∃ (bo' : Int → Int), ∃ (un' : Int → Int), ∃ (cl' : Int → Int), sBrkB cn bo cl un pl box x bo' un' cl' ∧ r = iI x ∧ u = [(h0, oo 0 [.int (iI cn), .ref b1, .ref b2, .ref b3, .ref b4, .ref b5, .ref b6, .ref b7, .ref b8]), (b1, aI E 200 bo'), (b4, aI E 30 un'), (b5, aZ E 30 cl'), (b6, aI E 30 pl)]) := by
  refine MI.of (cc := cX0_breakBox) (maxL := 4) (own := RX0) (by decide) rfl rfl rfl (Nat.le_of_ble_eq_true rfl) [(0, .ref h0), (1, .int (iI box))] rfl ?_
  intro X hin2 hRet
  refine g_aload_n 0 dX0_breakBox_0 rfl rfl ?_
  refine g_get (C := RX0) (T := TX0) (N := 9) 0 6 (fun _ h => List.mem_cons_of_mem _ (List.mem_append_right _ h)) (List.mem_of_getElem? (i := 1) rfl) rfl rfl (by decide) rfl rfl dX0_breakBox_1 ?_
  refine g_iload_n 1 dX0_breakBox_4 rfl rfl ?_
  refine g_iald 4 dX0_breakBox_5 rfl (by decide) (by omega) (by omega) ?_
  have q_1 := hpl box
  refine g_bipush dX0_breakBox_6 rfl ?_
  refine g_icmp_eq (tgt := 14) (by unfold R32; omega) (by unfold R32; omega) dX0_breakBox_8 rfl (fun c_2 => ?_) (fun c_2 => ?_)
  · refine g_aload_n 0 dX0_breakBox_14 rfl rfl ?_
    refine g_get (C := RX0) (T := TX0) (N := 9) 0 4 (fun _ h => List.mem_cons_of_mem _ (List.mem_append_right _ h)) (List.mem_of_getElem? (i := 2) rfl) rfl rfl (by decide) rfl rfl dX0_breakBox_15 ?_
    refine g_iload_n 1 dX0_breakBox_18 rfl rfl ?_
    refine g_iald 2 dX0_breakBox_19 rfl (by decide) (by omega) (by omega) ?_
    have q_3 := hun box
    refine g_istore_n (lv1 := [(2, .int (iI (un box))), (0, .ref h0), (1, .int (iI box))]) dX0_breakBox_20 rfl (by decide) rfl ?_
    refine g_iconst dX0_breakBox_21 ?_
    refine g_istore_n (lv1 := [(3, .int (iI 0)), (2, .int (iI (un box))), (0, .ref h0), (1, .int (iI box))]) dX0_breakBox_22 rfl (by decide) rfl ?_
    refine g_lv (lv1 := [(0, .ref h0), (1, .int (iI box)), (2, .int (iI (un box))), (3, .int (iI 0))]) [2, 3, 1, 0] rfl ?_
    have L23 : ∀ (nn : Nat) (i : Int) (f : Int → Int) (hi : 0 ≤ i ∧ i ≤ cn) (hf : f = brk bo i box) (hm : cn - i < (nn : Int)), G X ({ frames := 0, cells := 0, slots := 0, locals := 0 } : Room) cX0_breakBox 4 RX0 wsX0_breakBox E [] 0 0 [(h0, oo 0 [.int (iI cn), .ref b1, .ref b2, .ref b3, .ref b4, .ref b5, .ref b6, .ref b7, .ref b8]), (b1, aI E 200 f), (b4, aI E 30 un), (b5, aZ E 30 cl), (b6, aI E 30 pl)] [(0, .ref h0), (1, .int (iI box)), (2, .int (iI (un box))), (3, .int (iI i))] 23 [] := by
      intro nn
      induction nn with
      | zero => intro i f hi hf hm; exfalso; omega
      | succ nn ih23 =>
        intro i f hi hf hm
        refine g_iload_n 3 dX0_breakBox_23 rfl rfl ?_
        refine g_aload_n 0 dX0_breakBox_24 rfl rfl ?_
        refine g_get (C := RX0) (T := TX0) (N := 9) 0 0 (fun _ h => List.mem_cons_of_mem _ (List.mem_append_right _ h)) (List.mem_of_getElem? (i := 3) rfl) rfl rfl (by decide) rfl rfl dX0_breakBox_25 ?_
        refine g_icmp_ge (tgt := 55) (by unfold R32; omega) (by unfold R32; omega) dX0_breakBox_28 rfl (fun c_4 => ?_) (fun c_4 => ?_)
        · refine g_aload_n 0 dX0_breakBox_55 rfl rfl ?_
          refine g_get (C := RX0) (T := TX0) (N := 9) 0 4 (fun _ h => List.mem_cons_of_mem _ (List.mem_append_right _ h)) (List.mem_of_getElem? (i := 2) rfl) rfl rfl (by decide) rfl rfl dX0_breakBox_56 ?_
          refine g_iload_n 1 dX0_breakBox_59 rfl rfl ?_
          refine g_iconst dX0_breakBox_60 ?_
          refine g_iast (ws1 := [(h0, oo 0 [.int (iI cn), .ref b1, .ref b2, .ref b3, .ref b4, .ref b5, .ref b6, .ref b7, .ref b8]), (b1, aI E 200 f), (b4, aI E 30 (up un box 0)), (b5, aZ E 30 cl), (b6, aI E 30 pl)]) 2 dX0_breakBox_61 rfl rfl (by decide) (by omega) (by omega) ?_
          refine g_aload_n 0 dX0_breakBox_62 rfl rfl ?_
          refine g_get (C := RX0) (T := TX0) (N := 9) 0 5 (fun _ h => List.mem_cons_of_mem _ (List.mem_append_right _ h)) (List.mem_of_getElem? (i := 5) rfl) rfl rfl (by decide) rfl rfl dX0_breakBox_63 ?_
          refine g_iload_n 1 dX0_breakBox_66 rfl rfl ?_
          refine g_iconst dX0_breakBox_67 ?_
          refine g_zast (ws1 := [(h0, oo 0 [.int (iI cn), .ref b1, .ref b2, .ref b3, .ref b4, .ref b5, .ref b6, .ref b7, .ref b8]), (b1, aI E 200 f), (b4, aI E 30 (up un box 0)), (b5, aZ E 30 (up cl box 0)), (b6, aI E 30 pl)]) 3 dX0_breakBox_68 rfl (by omega) rfl (by decide) (by omega) (by omega) ?_
          refine g_iload_n 2 dX0_breakBox_69 rfl rfl ?_
          exact g_iret hRet dX0_breakBox_70 rfl ⟨(un box), f, (up un box 0), (up cl box 0), (by unfold sBrkB; rw [if_neg (by omega)]; exact ⟨rfl, by rw [hf, show i = cn by omega], rfl, rfl⟩), rfl, rfl⟩
        · have hfi : f i = bo i := by rw [hf]; exact brk_at bo i box
          have hbi := hbo i
          refine g_aload_n 0 dX0_breakBox_31 rfl rfl ?_
          refine g_get (C := RX0) (T := TX0) (N := 9) 0 1 (fun _ h => List.mem_cons_of_mem _ (List.mem_append_right _ h)) (List.mem_of_getElem? (i := 4) rfl) rfl rfl (by decide) rfl rfl dX0_breakBox_32 ?_
          refine g_iload_n 3 dX0_breakBox_35 rfl rfl ?_
          refine g_iald 1 dX0_breakBox_36 rfl (by decide) (by omega) (by omega) ?_
          refine g_iload_n 1 dX0_breakBox_37 rfl rfl ?_
          refine g_icmp_ne (tgt := 49) (by unfold R32; omega) (by unfold R32; omega) dX0_breakBox_38 rfl (fun hq => ?_) (fun hq => ?_)
          · refine g_aload_n 0 dX0_breakBox_41 rfl rfl ?_
            refine g_get (C := RX0) (T := TX0) (N := 9) 0 1 (fun _ h => List.mem_cons_of_mem _ (List.mem_append_right _ h)) (List.mem_of_getElem? (i := 4) rfl) rfl rfl (by decide) rfl rfl dX0_breakBox_42 ?_
            refine g_iload_n 3 dX0_breakBox_45 rfl rfl ?_
            refine g_bipush dX0_breakBox_46 rfl ?_
            refine g_iast (ws1 := [(h0, oo 0 [.int (iI cn), .ref b1, .ref b2, .ref b3, .ref b4, .ref b5, .ref b6, .ref b7, .ref b8]), (b1, aI E 200 (up f i (-4))), (b4, aI E 30 un), (b5, aZ E 30 cl), (b6, aI E 30 pl)]) 1 dX0_breakBox_48 rfl rfl (by decide) (by omega) (by omega) ?_
            refine g_iinc (lv1 := [(3, .int (iI (i + 1))), (0, .ref h0), (1, .int (iI box)), (2, .int (iI (un box)))]) 3 dX0_breakBox_49 rfl (by decide) rfl ?_
            refine g_goto (tgt := 23) dX0_breakBox_52 rfl ?_
            refine g_lv (lv1 := [(0, .ref h0), (1, .int (iI box)), (2, .int (iI (un box))), (3, .int (iI (i + 1)))]) [1, 2, 3, 0] rfl ?_
            exact ih23 (i + 1) (up f i (-4)) (by omega) (by rw [hf]; exact brk_s1 (by rw [← hfi]; exact hq) (by omega)) (by omega)
          · refine g_iinc (lv1 := [(3, .int (iI (i + 1))), (0, .ref h0), (1, .int (iI box)), (2, .int (iI (un box)))]) 3 dX0_breakBox_49 rfl (by decide) rfl ?_
            refine g_goto (tgt := 23) dX0_breakBox_52 rfl ?_
            refine g_lv (lv1 := [(0, .ref h0), (1, .int (iI box)), (2, .int (iI (un box))), (3, .int (iI (i + 1)))]) [1, 2, 3, 0] rfl ?_
            exact ih23 (i + 1) f (by omega) (by rw [hf]; exact brk_s2 (fun z => hq (by rw [hfi]; exact z))) (by omega)
    exact L23 _ 0 bo (by omega) (by exact brk_0 bo box) (lt_nn _)
  · refine g_bipush dX0_breakBox_11 rfl ?_
    exact g_iret hRet dX0_breakBox_13 rfl ⟨(-2), bo, un, cl, (by unfold sBrkB; rw [if_pos (by omega)]; exact ⟨rfl, rfl, rfl, rfl⟩), rfl, rfl⟩

set_option maxHeartbeats 4000000 in
set_option maxRecDepth 100000 in
theorem c_X0_breakPallet (E : Ev) (h0 : Nat) (b1 : Nat) (b2 : Nat) (b3 : Nat) (b4 : Nat) (b5 : Nat) (b6 : Nat) (b7 : Nat) (b8 : Nat) (cn : Int) (pl : Int → Int) (on : Int → Int) (se : Int → Int) (pal : Int) (hcn : 0 ≤ cn ∧ cn ≤ 200) (hpl : ∀ k, -4 ≤ pl k ∧ pl k ≤ 5) (hon : ∀ k, 0 ≤ on k ∧ on k ≤ 30) (hse : ∀ k, 0 ≤ se k ∧ se k ≤ 1) (h_pal : -2147483648 ≤ pal ∧ pal ≤ 2147483647) (hr_pal : 0 ≤ pal ∧ pal < 6) : MI yX0_breakPallet wsX0_breakPallet ({ frames := 0, cells := 0, slots := 0, locals := 0 } : Room) E [] 0 0 [.ref h0, .int (iI pal)] [(h0, oo 0 [.int (iI cn), .ref b1, .ref b2, .ref b3, .ref b4, .ref b5, .ref b6, .ref b7, .ref b8]), (b6, aI E 30 pl), (b7, aI E 6 on), (b8, aZ E 6 se)] (fun r u => ∃ (pl' : Int → Int), pl' = brk pl 30 pal ∧ r = iI (on pal) ∧ u = [(h0, oo 0 [.int (iI cn), .ref b1, .ref b2, .ref b3, .ref b4, .ref b5, .ref b6, .ref b7, .ref b8]), (b6, aI E 30 pl'), (b7, aI E 6 (up on pal 0)), (b8, aZ E 6 (up se pal 0))]) := by
  refine MI.of (cc := cX0_breakPallet) (maxL := 4) (own := RX0) (by decide) rfl rfl rfl (Nat.le_of_ble_eq_true rfl) [(0, .ref h0), (1, .int (iI pal))] rfl ?_
  intro X hin2 hRet
  refine g_aload_n 0 dX0_breakPallet_0 rfl rfl ?_
  refine g_get (C := RX0) (T := TX0) (N := 9) 0 7 (fun _ h => List.mem_cons_of_mem _ (List.mem_append_right _ h)) (List.mem_of_getElem? (i := 1) rfl) rfl rfl (by decide) rfl rfl dX0_breakPallet_1 ?_
  refine g_iload_n 1 dX0_breakPallet_4 rfl rfl ?_
  refine g_iald 2 dX0_breakPallet_5 rfl (by decide) (by omega) (by omega) ?_
  have q_1 := hon pal
  refine g_istore_n (lv1 := [(2, .int (iI (on pal))), (0, .ref h0), (1, .int (iI pal))]) dX0_breakPallet_6 rfl (by decide) rfl ?_
  refine g_iconst dX0_breakPallet_7 ?_
  refine g_istore_n (lv1 := [(3, .int (iI 0)), (2, .int (iI (on pal))), (0, .ref h0), (1, .int (iI pal))]) dX0_breakPallet_8 rfl (by decide) rfl ?_
  refine g_lv (lv1 := [(0, .ref h0), (1, .int (iI pal)), (2, .int (iI (on pal))), (3, .int (iI 0))]) [2, 3, 1, 0] rfl ?_
  have L9 : ∀ (nn : Nat) (i : Int) (f : Int → Int) (hi : 0 ≤ i ∧ i ≤ 30) (hf : f = brk pl i pal) (hm : 30 - i < (nn : Int)), G X ({ frames := 0, cells := 0, slots := 0, locals := 0 } : Room) cX0_breakPallet 4 RX0 wsX0_breakPallet E [] 0 0 [(h0, oo 0 [.int (iI cn), .ref b1, .ref b2, .ref b3, .ref b4, .ref b5, .ref b6, .ref b7, .ref b8]), (b6, aI E 30 f), (b7, aI E 6 on), (b8, aZ E 6 se)] [(0, .ref h0), (1, .int (iI pal)), (2, .int (iI (on pal))), (3, .int (iI i))] 9 [] := by
    intro nn
    induction nn with
    | zero => intro i f hi hf hm; exfalso; omega
    | succ nn ih9 =>
      intro i f hi hf hm
      refine g_iload_n 3 dX0_breakPallet_9 rfl rfl ?_
      refine g_bipush dX0_breakPallet_10 rfl ?_
      refine g_icmp_ge (tgt := 39) (by unfold R32; omega) (by unfold R32; omega) dX0_breakPallet_12 rfl (fun c_2 => ?_) (fun c_2 => ?_)
      · refine g_aload_n 0 dX0_breakPallet_39 rfl rfl ?_
        refine g_get (C := RX0) (T := TX0) (N := 9) 0 7 (fun _ h => List.mem_cons_of_mem _ (List.mem_append_right _ h)) (List.mem_of_getElem? (i := 1) rfl) rfl rfl (by decide) rfl rfl dX0_breakPallet_40 ?_
        refine g_iload_n 1 dX0_breakPallet_43 rfl rfl ?_
        refine g_iconst dX0_breakPallet_44 ?_
        refine g_iast (ws1 := [(h0, oo 0 [.int (iI cn), .ref b1, .ref b2, .ref b3, .ref b4, .ref b5, .ref b6, .ref b7, .ref b8]), (b6, aI E 30 f), (b7, aI E 6 (up on pal 0)), (b8, aZ E 6 se)]) 2 dX0_breakPallet_45 rfl rfl (by decide) (by omega) (by omega) ?_
        refine g_aload_n 0 dX0_breakPallet_46 rfl rfl ?_
        refine g_get (C := RX0) (T := TX0) (N := 9) 0 8 (fun _ h => List.mem_cons_of_mem _ (List.mem_append_right _ h)) (List.mem_of_getElem? (i := 3) rfl) rfl rfl (by decide) rfl rfl dX0_breakPallet_47 ?_
        refine g_iload_n 1 dX0_breakPallet_50 rfl rfl ?_
        refine g_iconst dX0_breakPallet_51 ?_
        refine g_zast (ws1 := [(h0, oo 0 [.int (iI cn), .ref b1, .ref b2, .ref b3, .ref b4, .ref b5, .ref b6, .ref b7, .ref b8]), (b6, aI E 30 f), (b7, aI E 6 (up on pal 0)), (b8, aZ E 6 (up se pal 0))]) 3 dX0_breakPallet_52 rfl (by omega) rfl (by decide) (by omega) (by omega) ?_
        refine g_iload_n 2 dX0_breakPallet_53 rfl rfl ?_
        exact g_iret hRet dX0_breakPallet_54 rfl ⟨f, (by rw [hf, show i = 30 by omega]), rfl, rfl⟩
      · have hfi : f i = pl i := by rw [hf]; exact brk_at pl i pal
        have hbi := hpl i
        refine g_aload_n 0 dX0_breakPallet_15 rfl rfl ?_
        refine g_get (C := RX0) (T := TX0) (N := 9) 0 6 (fun _ h => List.mem_cons_of_mem _ (List.mem_append_right _ h)) (List.mem_of_getElem? (i := 2) rfl) rfl rfl (by decide) rfl rfl dX0_breakPallet_16 ?_
        refine g_iload_n 3 dX0_breakPallet_19 rfl rfl ?_
        refine g_iald 1 dX0_breakPallet_20 rfl (by decide) (by omega) (by omega) ?_
        refine g_iload_n 1 dX0_breakPallet_21 rfl rfl ?_
        refine g_icmp_ne (tgt := 33) (by unfold R32; omega) (by unfold R32; omega) dX0_breakPallet_22 rfl (fun hq => ?_) (fun hq => ?_)
        · refine g_aload_n 0 dX0_breakPallet_25 rfl rfl ?_
          refine g_get (C := RX0) (T := TX0) (N := 9) 0 6 (fun _ h => List.mem_cons_of_mem _ (List.mem_append_right _ h)) (List.mem_of_getElem? (i := 2) rfl) rfl rfl (by decide) rfl rfl dX0_breakPallet_26 ?_
          refine g_iload_n 3 dX0_breakPallet_29 rfl rfl ?_
          refine g_bipush dX0_breakPallet_30 rfl ?_
          refine g_iast (ws1 := [(h0, oo 0 [.int (iI cn), .ref b1, .ref b2, .ref b3, .ref b4, .ref b5, .ref b6, .ref b7, .ref b8]), (b6, aI E 30 (up f i (-4))), (b7, aI E 6 on), (b8, aZ E 6 se)]) 1 dX0_breakPallet_32 rfl rfl (by decide) (by omega) (by omega) ?_
          refine g_iinc (lv1 := [(3, .int (iI (i + 1))), (0, .ref h0), (1, .int (iI pal)), (2, .int (iI (on pal)))]) 3 dX0_breakPallet_33 rfl (by decide) rfl ?_
          refine g_goto (tgt := 9) dX0_breakPallet_36 rfl ?_
          refine g_lv (lv1 := [(0, .ref h0), (1, .int (iI pal)), (2, .int (iI (on pal))), (3, .int (iI (i + 1)))]) [1, 2, 3, 0] rfl ?_
          exact ih9 (i + 1) (up f i (-4)) (by omega) (by rw [hf]; exact brk_s1 (by rw [← hfi]; exact hq) (by omega)) (by omega)
        · refine g_iinc (lv1 := [(3, .int (iI (i + 1))), (0, .ref h0), (1, .int (iI pal)), (2, .int (iI (on pal)))]) 3 dX0_breakPallet_33 rfl (by decide) rfl ?_
          refine g_goto (tgt := 9) dX0_breakPallet_36 rfl ?_
          refine g_lv (lv1 := [(0, .ref h0), (1, .int (iI pal)), (2, .int (iI (on pal))), (3, .int (iI (i + 1)))]) [1, 2, 3, 0] rfl ?_
          exact ih9 (i + 1) f (by omega) (by rw [hf]; exact brk_s2 (fun z => hq (by rw [hfi]; exact z))) (by omega)
  exact L9 _ 0 pl (by omega) (by exact brk_0 pl pal) (lt_nn _)

set_option maxHeartbeats 4000000 in
set_option maxRecDepth 100000 in
theorem c_X0_fullestCase (E : Ev) (h0 : Nat) (b1 : Nat) (b2 : Nat) (b3 : Nat) (b4 : Nat) (b5 : Nat) (b6 : Nat) (b7 : Nat) (b8 : Nat) (cn : Int) (un : Int → Int) (hcn : 0 ≤ cn ∧ cn ≤ 200) (hun : ∀ k, 0 ≤ un k ∧ un k ≤ 200) : MI yX0_fullestCase wsX0_fullestCase ({ frames := 1, cells := 0, slots := 0, locals := 24 } : Room) E [] 0 0 [.ref h0] [(h0, oo 0 [.int (iI cn), .ref b1, .ref b2, .ref b3, .ref b4, .ref b5, .ref b6, .ref b7, .ref b8]), (b4, aI E 30 un)] (fun r u => ∃ (x : Int), ((∀ c, 0 ≤ c → c < 30 → un c ≤ x) ∧ 0 ≤ x ∧ x ≤ 200 ∧ (x = 0 ∨ ∃ c, 0 ≤ c ∧ c < 30 ∧ un c = x)) ∧ r = iI x ∧ u = [(h0, oo 0 [.int (iI cn), .ref b1, .ref b2, .ref b3, .ref b4, .ref b5, .ref b6, .ref b7, .ref b8]), (b4, aI E 30 un)]) := by
  refine MI.of (cc := cX0_fullestCase) (maxL := 3) (own := RX0) (by decide) rfl rfl rfl (Nat.le_of_ble_eq_true rfl) [(0, .ref h0)] rfl ?_
  intro X hin2 hRet
  refine g_iconst dX0_fullestCase_0 ?_
  refine g_istore_n (lv1 := [(1, .int (iI 0)), (0, .ref h0)]) dX0_fullestCase_1 rfl (by decide) rfl ?_
  refine g_iconst dX0_fullestCase_2 ?_
  refine g_istore_n (lv1 := [(2, .int (iI 0)), (1, .int (iI 0)), (0, .ref h0)]) dX0_fullestCase_3 rfl (by decide) rfl ?_
  refine g_lv (lv1 := [(0, .ref h0), (1, .int (iI 0)), (2, .int (iI 0))]) [2, 1, 0] rfl ?_
  have L4 : ∀ (nn : Nat) (i : Int) (m : Int) (hi : 0 ≤ i ∧ i ≤ 30) (hm1 : 0 ≤ m ∧ m ≤ 200) (hm2 : ∀ c, 0 ≤ c → c < i → un c ≤ m) (hm3 : m = 0 ∨ ∃ c, 0 ≤ c ∧ c < i ∧ un c = m) (hm : 30 - i < (nn : Int)), G X ({ frames := 1, cells := 0, slots := 0, locals := 24 } : Room) cX0_fullestCase 3 RX0 wsX0_fullestCase E [] 0 0 [(h0, oo 0 [.int (iI cn), .ref b1, .ref b2, .ref b3, .ref b4, .ref b5, .ref b6, .ref b7, .ref b8]), (b4, aI E 30 un)] [(0, .ref h0), (1, .int (iI m)), (2, .int (iI i))] 4 [] := by
    intro nn
    induction nn with
    | zero => intro i m hi hm1 hm2 hm3 hm; exfalso; omega
    | succ nn ih4 =>
      intro i m hi hm1 hm2 hm3 hm
      refine g_iload_n 2 dX0_fullestCase_4 rfl rfl ?_
      refine g_bipush dX0_fullestCase_5 rfl ?_
      refine g_icmp_ge (tgt := 27) (by unfold R32; omega) (by unfold R32; omega) dX0_fullestCase_7 rfl (fun c_1 => ?_) (fun c_1 => ?_)
      · refine g_iload_n 1 dX0_fullestCase_27 rfl rfl ?_
        exact g_iret hRet dX0_fullestCase_28 rfl ⟨m, (by refine ⟨fun c c1 c2 => hm2 c c1 (by omega), by omega, by omega, ?_⟩; rcases hm3 with e | ⟨c, c1, c2, c3⟩; left; exact e; right; exact ⟨c, c1, by omega, c3⟩), rfl, rfl⟩
      · refine g_iload_n 1 dX0_fullestCase_10 rfl rfl ?_
        refine g_aload_n 0 dX0_fullestCase_11 rfl rfl ?_
        refine g_get (C := RX0) (T := TX0) (N := 9) 0 4 (fun _ h => List.mem_cons_of_mem _ (List.mem_append_right _ h)) (List.mem_of_getElem? (i := 1) rfl) rfl rfl (by decide) rfl rfl dX0_fullestCase_12 ?_
        refine g_iload_n 2 dX0_fullestCase_15 rfl rfl ?_
        refine g_iald 1 dX0_fullestCase_16 rfl (by decide) (by omega) (by omega) ?_
        have q_2 := hun i
        refine g_mmax (by unfold R32; omega) (by unfold R32; omega) (List.mem_of_getElem? (i := 2) rfl) (List.mem_of_getElem? (i := 3) rfl) (List.mem_of_getElem? (i := 4) rfl) (List.mem_of_getElem? (i := 5) rfl) (by decide) (Nat.le_of_ble_eq_true rfl) (by decide) dX0_fullestCase_17 ?_
        refine g_istore_n (lv1 := [(1, .int (iI (max m (un i)))), (0, .ref h0), (2, .int (iI i))]) dX0_fullestCase_20 rfl (by decide) rfl ?_
        refine g_iinc (lv1 := [(2, .int (iI (i + 1))), (1, .int (iI (max m (un i)))), (0, .ref h0)]) 2 dX0_fullestCase_21 rfl (by decide) rfl ?_
        refine g_goto (tgt := 4) dX0_fullestCase_24 rfl ?_
        refine g_lv (lv1 := [(0, .ref h0), (1, .int (iI (max m (un i)))), (2, .int (iI (i + 1)))]) [2, 1, 0] rfl ?_
        exact ih4 (i + 1) (max m (un i)) (by omega) (by have q9 := hun i; omega) (by intro c c1 c2; by_cases k : c = i; rw [k]; omega; have := hm2 c c1 (by omega); omega) (by by_cases z : un i ≤ m; rcases hm3 with e | ⟨c, c1, c2, c3⟩; left; omega; right; exact ⟨c, c1, by omega, by omega⟩; right; exact ⟨i, by omega, by omega, by omega⟩) (by omega)
  exact L4 _ 0 0 (by omega) (by omega) (by intro c c1 c2; omega) (by left; rfl) (lt_nn _)

set_option maxHeartbeats 4000000 in
set_option maxRecDepth 100000 in
theorem c_X0_fullestPallet (E : Ev) (h0 : Nat) (b1 : Nat) (b2 : Nat) (b3 : Nat) (b4 : Nat) (b5 : Nat) (b6 : Nat) (b7 : Nat) (b8 : Nat) (cn : Int) (on : Int → Int) (hcn : 0 ≤ cn ∧ cn ≤ 200) (hon : ∀ k, 0 ≤ on k ∧ on k ≤ 30) : MI yX0_fullestPallet wsX0_fullestPallet ({ frames := 1, cells := 0, slots := 0, locals := 24 } : Room) E [] 0 0 [.ref h0] [(h0, oo 0 [.int (iI cn), .ref b1, .ref b2, .ref b3, .ref b4, .ref b5, .ref b6, .ref b7, .ref b8]), (b7, aI E 6 on)] (fun r u => ∃ (x : Int), ((∀ c, 0 ≤ c → c < 6 → on c ≤ x) ∧ 0 ≤ x ∧ x ≤ 200 ∧ (x = 0 ∨ ∃ c, 0 ≤ c ∧ c < 6 ∧ on c = x)) ∧ r = iI x ∧ u = [(h0, oo 0 [.int (iI cn), .ref b1, .ref b2, .ref b3, .ref b4, .ref b5, .ref b6, .ref b7, .ref b8]), (b7, aI E 6 on)]) := by
  refine MI.of (cc := cX0_fullestPallet) (maxL := 3) (own := RX0) (by decide) rfl rfl rfl (Nat.le_of_ble_eq_true rfl) [(0, .ref h0)] rfl ?_
  intro X hin2 hRet
  refine g_iconst dX0_fullestPallet_0 ?_
  refine g_istore_n (lv1 := [(1, .int (iI 0)), (0, .ref h0)]) dX0_fullestPallet_1 rfl (by decide) rfl ?_
  refine g_iconst dX0_fullestPallet_2 ?_
  refine g_istore_n (lv1 := [(2, .int (iI 0)), (1, .int (iI 0)), (0, .ref h0)]) dX0_fullestPallet_3 rfl (by decide) rfl ?_
  refine g_lv (lv1 := [(0, .ref h0), (1, .int (iI 0)), (2, .int (iI 0))]) [2, 1, 0] rfl ?_
  have L4 : ∀ (nn : Nat) (i : Int) (m : Int) (hi : 0 ≤ i ∧ i ≤ 6) (hm1 : 0 ≤ m ∧ m ≤ 200) (hm2 : ∀ c, 0 ≤ c → c < i → on c ≤ m) (hm3 : m = 0 ∨ ∃ c, 0 ≤ c ∧ c < i ∧ on c = m) (hm : 6 - i < (nn : Int)), G X ({ frames := 1, cells := 0, slots := 0, locals := 24 } : Room) cX0_fullestPallet 3 RX0 wsX0_fullestPallet E [] 0 0 [(h0, oo 0 [.int (iI cn), .ref b1, .ref b2, .ref b3, .ref b4, .ref b5, .ref b6, .ref b7, .ref b8]), (b7, aI E 6 on)] [(0, .ref h0), (1, .int (iI m)), (2, .int (iI i))] 4 [] := by
    intro nn
    induction nn with
    | zero => intro i m hi hm1 hm2 hm3 hm; exfalso; omega
    | succ nn ih4 =>
      intro i m hi hm1 hm2 hm3 hm
      refine g_iload_n 2 dX0_fullestPallet_4 rfl rfl ?_
      refine g_bipush dX0_fullestPallet_5 rfl ?_
      refine g_icmp_ge (tgt := 27) (by unfold R32; omega) (by unfold R32; omega) dX0_fullestPallet_7 rfl (fun c_1 => ?_) (fun c_1 => ?_)
      · refine g_iload_n 1 dX0_fullestPallet_27 rfl rfl ?_
        exact g_iret hRet dX0_fullestPallet_28 rfl ⟨m, (by refine ⟨fun c c1 c2 => hm2 c c1 (by omega), by omega, by omega, ?_⟩; rcases hm3 with e | ⟨c, c1, c2, c3⟩; left; exact e; right; exact ⟨c, c1, by omega, c3⟩), rfl, rfl⟩
      · refine g_iload_n 1 dX0_fullestPallet_10 rfl rfl ?_
        refine g_aload_n 0 dX0_fullestPallet_11 rfl rfl ?_
        refine g_get (C := RX0) (T := TX0) (N := 9) 0 7 (fun _ h => List.mem_cons_of_mem _ (List.mem_append_right _ h)) (List.mem_of_getElem? (i := 1) rfl) rfl rfl (by decide) rfl rfl dX0_fullestPallet_12 ?_
        refine g_iload_n 2 dX0_fullestPallet_15 rfl rfl ?_
        refine g_iald 1 dX0_fullestPallet_16 rfl (by decide) (by omega) (by omega) ?_
        have q_2 := hon i
        refine g_mmax (by unfold R32; omega) (by unfold R32; omega) (List.mem_of_getElem? (i := 2) rfl) (List.mem_of_getElem? (i := 3) rfl) (List.mem_of_getElem? (i := 4) rfl) (List.mem_of_getElem? (i := 5) rfl) (by decide) (Nat.le_of_ble_eq_true rfl) (by decide) dX0_fullestPallet_17 ?_
        refine g_istore_n (lv1 := [(1, .int (iI (max m (on i)))), (0, .ref h0), (2, .int (iI i))]) dX0_fullestPallet_20 rfl (by decide) rfl ?_
        refine g_iinc (lv1 := [(2, .int (iI (i + 1))), (1, .int (iI (max m (on i)))), (0, .ref h0)]) 2 dX0_fullestPallet_21 rfl (by decide) rfl ?_
        refine g_goto (tgt := 4) dX0_fullestPallet_24 rfl ?_
        refine g_lv (lv1 := [(0, .ref h0), (1, .int (iI (max m (on i)))), (2, .int (iI (i + 1)))]) [2, 1, 0] rfl ?_
        exact ih4 (i + 1) (max m (on i)) (by omega) (by have q9 := hon i; omega) (by intro c c1 c2; by_cases k : c = i; rw [k]; omega; have := hm2 c c1 (by omega); omega) (by by_cases z : on i ≤ m; rcases hm3 with e | ⟨c, c1, c2, c3⟩; left; omega; right; exact ⟨c, c1, by omega, by omega⟩; right; exact ⟨i, by omega, by omega, by omega⟩) (by omega)
  exact L4 _ 0 0 (by omega) (by omega) (by intro c c1 c2; omega) (by left; rfl) (lt_nn _)

set_option maxHeartbeats 4000000 in
set_option maxRecDepth 100000 in
theorem c_X0_palletOfCode (E : Ev) (h0 : Nat) (b1 : Nat) (b2 : Nat) (b3 : Nat) (b4 : Nat) (b5 : Nat) (b6 : Nat) (b7 : Nat) (b8 : Nat) (cn : Int) (bo : Int → Int) (pl : Int → Int) (code : Int) (hcn : 0 ≤ cn ∧ cn ≤ 200) (hbo : ∀ k, -4 ≤ bo k ∧ bo k ≤ 29) (hpl : ∀ k, -4 ≤ pl k ∧ pl k ≤ 5) (h_code : -2147483648 ≤ code ∧ code ≤ 2147483647) (hco : 0 ≤ code ∧ code < cn) : MI yX0_palletOfCode wsX0_palletOfCode ({ frames := 2, cells := 0, slots := 0, locals := 42 } : Room) E [] 0 0 [.ref h0, .int (iI code)] [(h0, oo 0 [.int (iI cn), .ref b1, .ref b2, .ref b3, .ref b4, .ref b5, .ref b6, .ref b7, .ref b8]), (b1, aI E 200 bo), (b6, aI E 30 pl)] (fun r u => r = iI (pOf bo pl code) ∧ u = [(h0, oo 0 [.int (iI cn), .ref b1, .ref b2, .ref b3, .ref b4, .ref b5, .ref b6, .ref b7, .ref b8]), (b1, aI E 200 bo), (b6, aI E 30 pl)]) := by
  refine MI.of (cc := cX0_palletOfCode) (maxL := 3) (own := RX0) (by decide) rfl rfl rfl (Nat.le_of_ble_eq_true rfl) [(0, .ref h0), (1, .int (iI code))] rfl ?_
  intro X hin2 hRet
  refine g_aload_n 0 dX0_palletOfCode_0 rfl rfl ?_
  refine g_get (C := RX0) (T := TX0) (N := 9) 0 1 (fun _ h => List.mem_cons_of_mem _ (List.mem_append_right _ h)) (List.mem_of_getElem? (i := 1) rfl) rfl rfl (by decide) rfl rfl dX0_palletOfCode_1 ?_
  refine g_iload_n 1 dX0_palletOfCode_4 rfl rfl ?_
  refine g_iald 1 dX0_palletOfCode_5 rfl (by decide) (by omega) (by omega) ?_
  have q_1 := hbo code
  refine g_istore_n (lv1 := [(2, .int (iI (bo code))), (0, .ref h0), (1, .int (iI code))]) dX0_palletOfCode_6 rfl (by decide) rfl ?_
  refine g_iload_n 0 dX0_palletOfCode_7 rfl rfl ?_
  refine g_callN_i (n := 1) (As := [.int (iI (bo code))]) (wr := [(h0, oo 0 [.int (iI cn), .ref b1, .ref b2, .ref b3, .ref b4, .ref b5, .ref b6, .ref b7, .ref b8]), (b1, aI E 200 bo), (b6, aI E 30 pl)]) [] (c_X6_isBox E (bo code) (by omega)) [] [0, 1, 2] gX0_palletOfCode_X6_isBox_n71 (fun _ h => h.2.2.2.2.2.2.1) (List.mem_of_getElem? (i := 4) rfl) (List.mem_of_getElem? (i := 3) rfl) rfl (by decide +kernel) ⟨by decide, by decide⟩ rfl rfl rfl rfl rfl (by decide) rfl (by decide) (by decide) (fun _ h => absurd h List.not_mem_nil) dX0_palletOfCode_8 rfl (Nat.le_of_ble_eq_true rfl) ⟨by decide, by decide⟩ (fun r u p_2 => ?_)
  obtain ⟨rfl, rfl⟩ := p_2
  refine g_perm (ws1 := [(h0, oo 0 [.int (iI cn), .ref b1, .ref b2, .ref b3, .ref b4, .ref b5, .ref b6, .ref b7, .ref b8]), (b1, aI E 200 bo), (b6, aI E 30 pl)]) [0, 1, 2] rfl (by decide) rfl ?_
  refine g_if_eq_b (tgt := 23) dX0_palletOfCode_11 rfl (fun c_3 => ?_) (fun c_3 => ?_)
  · refine g_aload_n 1 dX0_palletOfCode_14 rfl rfl ?_
    refine g_get (C := RX0) (T := TX0) (N := 9) 0 6 (fun _ h => List.mem_cons_of_mem _ (List.mem_append_right _ h)) (List.mem_of_getElem? (i := 2) rfl) rfl rfl (by decide) rfl rfl dX0_palletOfCode_15 ?_
    refine g_iload_n 0 dX0_palletOfCode_18 rfl rfl ?_
    refine g_iald 2 dX0_palletOfCode_19 rfl (by decide) (by omega) (by omega) ?_
    have q_4 := hpl (bo code)
    refine g_goto (tgt := 25) dX0_palletOfCode_20 rfl ?_
    exact g_iret hRet dX0_palletOfCode_25 rfl ⟨(congrArg iI (by unfold pOf; first | rw [if_pos (by omega)] | rw [if_neg (by omega)])), rfl⟩
  · refine g_bipush dX0_palletOfCode_23 rfl ?_
    exact g_iret hRet dX0_palletOfCode_25 rfl ⟨(congrArg iI (by unfold pOf; first | rw [if_pos (by omega)] | rw [if_neg (by omega)])), rfl⟩

set_option maxHeartbeats 4000000 in
set_option maxRecDepth 100000 in
theorem c_X0_looseOf (E : Ev) (h0 : Nat) (b1 : Nat) (b2 : Nat) (b3 : Nat) (b4 : Nat) (b5 : Nat) (b6 : Nat) (b7 : Nat) (b8 : Nat) (cn : Int) (bo : Int → Int) (lt : Int → Int) (lot : Int) (hcn : 0 ≤ cn ∧ cn ≤ 200) (hbo : ∀ k, -4 ≤ bo k ∧ bo k ≤ 29) (hlt : ∀ k, 0 ≤ lt k ∧ lt k ≤ 15) (h_lot : -2147483648 ≤ lot ∧ lot ≤ 2147483647) : MI yX0_looseOf wsX0_looseOf ({ frames := 0, cells := 0, slots := 0, locals := 0 } : Room) E [] 0 0 [.ref h0, .int (iI lot)] [(h0, oo 0 [.int (iI cn), .ref b1, .ref b2, .ref b3, .ref b4, .ref b5, .ref b6, .ref b7, .ref b8]), (b1, aI E 200 bo), (b2, aI E 200 lt)] (fun r u => ∃ (x : Int), x = sI (fun k => if lt k = lot ∧ bo k = -4 then 1 else 0) cn ∧ r = iI x ∧ u = [(h0, oo 0 [.int (iI cn), .ref b1, .ref b2, .ref b3, .ref b4, .ref b5, .ref b6, .ref b7, .ref b8]), (b1, aI E 200 bo), (b2, aI E 200 lt)]) := by
  refine MI.of (cc := cX0_looseOf) (maxL := 4) (own := RX0) (by decide) rfl rfl rfl (Nat.le_of_ble_eq_true rfl) [(0, .ref h0), (1, .int (iI lot))] rfl ?_
  intro X hin2 hRet
  refine g_iconst dX0_looseOf_0 ?_
  refine g_istore_n (lv1 := [(2, .int (iI 0)), (0, .ref h0), (1, .int (iI lot))]) dX0_looseOf_1 rfl (by decide) rfl ?_
  refine g_iconst dX0_looseOf_2 ?_
  refine g_istore_n (lv1 := [(3, .int (iI 0)), (2, .int (iI 0)), (0, .ref h0), (1, .int (iI lot))]) dX0_looseOf_3 rfl (by decide) rfl ?_
  refine g_lv (lv1 := [(0, .ref h0), (1, .int (iI lot)), (2, .int (iI 0)), (3, .int (iI 0))]) [2, 3, 1, 0] rfl ?_
  have L4 : ∀ (nn : Nat) (i : Int) (w : Int) (hi : 0 ≤ i ∧ i ≤ cn) (hw : w = sI (fun k => if lt k = lot ∧ bo k = -4 then 1 else 0) i) (hm : cn - i < (nn : Int)), G X ({ frames := 0, cells := 0, slots := 0, locals := 0 } : Room) cX0_looseOf 4 RX0 wsX0_looseOf E [] 0 0 [(h0, oo 0 [.int (iI cn), .ref b1, .ref b2, .ref b3, .ref b4, .ref b5, .ref b6, .ref b7, .ref b8]), (b1, aI E 200 bo), (b2, aI E 200 lt)] [(0, .ref h0), (1, .int (iI lot)), (2, .int (iI w)), (3, .int (iI i))] 4 [] := by
    intro nn
    induction nn with
    | zero => intro i w hi hw hm; exfalso; omega
    | succ nn ih4 =>
      intro i w hi hw hm
      refine g_iload_n 3 dX0_looseOf_4 rfl rfl ?_
      refine g_aload_n 0 dX0_looseOf_5 rfl rfl ?_
      refine g_get (C := RX0) (T := TX0) (N := 9) 0 0 (fun _ h => List.mem_cons_of_mem _ (List.mem_append_right _ h)) (List.mem_of_getElem? (i := 1) rfl) rfl rfl (by decide) rfl rfl dX0_looseOf_6 ?_
      refine g_icmp_ge (tgt := 42) (by unfold R32; omega) (by unfold R32; omega) dX0_looseOf_9 rfl (fun c_1 => ?_) (fun c_1 => ?_)
      · refine g_iload_n 2 dX0_looseOf_42 rfl rfl ?_
        exact g_iret hRet dX0_looseOf_43 rfl ⟨w, (by rw [hw, show i = cn by omega]), rfl, rfl⟩
      · refine g_aload_n 0 dX0_looseOf_12 rfl rfl ?_
        refine g_get (C := RX0) (T := TX0) (N := 9) 0 2 (fun _ h => List.mem_cons_of_mem _ (List.mem_append_right _ h)) (List.mem_of_getElem? (i := 2) rfl) rfl rfl (by decide) rfl rfl dX0_looseOf_13 ?_
        refine g_iload_n 3 dX0_looseOf_16 rfl rfl ?_
        refine g_iald 2 dX0_looseOf_17 rfl (by decide) (by omega) (by omega) ?_
        have q_2 := hlt i
        refine g_iload_n 1 dX0_looseOf_18 rfl rfl ?_
        refine g_icmp_ne (tgt := 36) (by unfold R32; omega) (by unfold R32; omega) dX0_looseOf_19 rfl (fun c_3 => ?_) (fun c_3 => ?_)
        · refine g_aload_n 0 dX0_looseOf_22 rfl rfl ?_
          refine g_get (C := RX0) (T := TX0) (N := 9) 0 1 (fun _ h => List.mem_cons_of_mem _ (List.mem_append_right _ h)) (List.mem_of_getElem? (i := 3) rfl) rfl rfl (by decide) rfl rfl dX0_looseOf_23 ?_
          refine g_iload_n 3 dX0_looseOf_26 rfl rfl ?_
          refine g_iald 1 dX0_looseOf_27 rfl (by decide) (by omega) (by omega) ?_
          have q_4 := hbo i
          refine g_bipush dX0_looseOf_28 rfl ?_
          refine g_icmp_ne (tgt := 36) (by unfold R32; omega) (by unfold R32; omega) dX0_looseOf_30 rfl (fun c_5 => ?_) (fun c_5 => ?_)
          · refine g_iinc (lv1 := [(2, .int (iI (w + 1))), (0, .ref h0), (1, .int (iI lot)), (3, .int (iI i))]) 2 dX0_looseOf_33 rfl (by decide) rfl ?_
            refine g_iinc (lv1 := [(3, .int (iI (i + 1))), (2, .int (iI (w + 1))), (0, .ref h0), (1, .int (iI lot))]) 3 dX0_looseOf_36 rfl (by decide) rfl ?_
            refine g_goto (tgt := 4) dX0_looseOf_39 rfl ?_
            refine g_lv (lv1 := [(0, .ref h0), (1, .int (iI lot)), (2, .int (iI (w + 1))), (3, .int (iI (i + 1)))]) [2, 3, 1, 0] rfl ?_
            exact ih4 (i + 1) (w + 1) (by omega) (by rw [sI_s _ (by omega), ← hw]; (try dsimp only); split <;> omega) (by omega)
          · refine g_iinc (lv1 := [(3, .int (iI (i + 1))), (0, .ref h0), (1, .int (iI lot)), (2, .int (iI w))]) 3 dX0_looseOf_36 rfl (by decide) rfl ?_
            refine g_goto (tgt := 4) dX0_looseOf_39 rfl ?_
            refine g_lv (lv1 := [(0, .ref h0), (1, .int (iI lot)), (2, .int (iI w)), (3, .int (iI (i + 1)))]) [1, 2, 3, 0] rfl ?_
            exact ih4 (i + 1) w (by omega) (by rw [sI_s _ (by omega), ← hw]; (try dsimp only); split <;> omega) (by omega)
        · refine g_iinc (lv1 := [(3, .int (iI (i + 1))), (0, .ref h0), (1, .int (iI lot)), (2, .int (iI w))]) 3 dX0_looseOf_36 rfl (by decide) rfl ?_
          refine g_goto (tgt := 4) dX0_looseOf_39 rfl ?_
          refine g_lv (lv1 := [(0, .ref h0), (1, .int (iI lot)), (2, .int (iI w)), (3, .int (iI (i + 1)))]) [1, 2, 3, 0] rfl ?_
          exact ih4 (i + 1) w (by omega) (by rw [sI_s _ (by omega), ← hw]; (try dsimp only); split <;> omega) (by omega)
  exact L4 _ 0 0 (by omega) (by rfl) (lt_nn _)

set_option maxHeartbeats 4000000 in
set_option maxRecDepth 100000 in
theorem c_X0_givenAway (E : Ev) (h0 : Nat) (b1 : Nat) (b2 : Nat) (b3 : Nat) (b4 : Nat) (b5 : Nat) (b6 : Nat) (b7 : Nat) (b8 : Nat) (cn : Int) (wg : Int → Int) (unit : Int) (hcn : 0 ≤ cn ∧ cn ≤ 200) (hwg : ∀ k, -4 ≤ wg k ∧ wg k ≤ 10000) (h_unit : -2147483648 ≤ unit ∧ unit ≤ 2147483647) (hun : 0 ≤ unit ∧ unit ≤ 10000) : MI yX0_givenAway wsX0_givenAway ({ frames := 1, cells := 0, slots := 0, locals := 24 } : Room) E [] 0 0 [.ref h0, .int (iI unit)] [(h0, oo 0 [.int (iI cn), .ref b1, .ref b2, .ref b3, .ref b4, .ref b5, .ref b6, .ref b7, .ref b8]), (b3, aI E 200 wg)] (fun r u => ∃ (x : Int), x = sI (fun k => if unit < wg k then wg k - unit else 0) cn ∧ r = iI x ∧ u = [(h0, oo 0 [.int (iI cn), .ref b1, .ref b2, .ref b3, .ref b4, .ref b5, .ref b6, .ref b7, .ref b8]), (b3, aI E 200 wg)]) := by
  refine MI.of (cc := cX0_givenAway) (maxL := 4) (own := RX0) (by decide) rfl rfl rfl (Nat.le_of_ble_eq_true rfl) [(0, .ref h0), (1, .int (iI unit))] rfl ?_
  intro X hin2 hRet
  refine g_iconst dX0_givenAway_0 ?_
  refine g_istore_n (lv1 := [(2, .int (iI 0)), (0, .ref h0), (1, .int (iI unit))]) dX0_givenAway_1 rfl (by decide) rfl ?_
  refine g_iconst dX0_givenAway_2 ?_
  refine g_istore_n (lv1 := [(3, .int (iI 0)), (2, .int (iI 0)), (0, .ref h0), (1, .int (iI unit))]) dX0_givenAway_3 rfl (by decide) rfl ?_
  refine g_lv (lv1 := [(0, .ref h0), (1, .int (iI unit)), (2, .int (iI 0)), (3, .int (iI 0))]) [2, 3, 1, 0] rfl ?_
  have L4 : ∀ (nn : Nat) (i : Int) (w : Int) (hi : 0 ≤ i ∧ i ≤ cn) (hw : w = sI (fun k => if unit < wg k then wg k - unit else 0) i) (hm : cn - i < (nn : Int)), G X ({ frames := 1, cells := 0, slots := 0, locals := 24 } : Room) cX0_givenAway 4 RX0 wsX0_givenAway E [] 0 0 [(h0, oo 0 [.int (iI cn), .ref b1, .ref b2, .ref b3, .ref b4, .ref b5, .ref b6, .ref b7, .ref b8]), (b3, aI E 200 wg)] [(0, .ref h0), (1, .int (iI unit)), (2, .int (iI w)), (3, .int (iI i))] 4 [] := by
    intro nn
    induction nn with
    | zero => intro i w hi hw hm; exfalso; omega
    | succ nn ih4 =>
      intro i w hi hw hm
      refine g_iload_n 3 dX0_givenAway_4 rfl rfl ?_
      refine g_aload_n 0 dX0_givenAway_5 rfl rfl ?_
      refine g_get (C := RX0) (T := TX0) (N := 9) 0 0 (fun _ h => List.mem_cons_of_mem _ (List.mem_append_right _ h)) (List.mem_of_getElem? (i := 1) rfl) rfl rfl (by decide) rfl rfl dX0_givenAway_6 ?_
      refine g_icmp_ge (tgt := 33) (by unfold R32; omega) (by unfold R32; omega) dX0_givenAway_9 rfl (fun c_1 => ?_) (fun c_1 => ?_)
      · refine g_iload_n 2 dX0_givenAway_33 rfl rfl ?_
        exact g_iret hRet dX0_givenAway_34 rfl ⟨w, (by rw [hw, show i = cn by omega]), rfl, rfl⟩
      · refine g_iload_n 2 dX0_givenAway_12 rfl rfl ?_
        refine g_aload_n 0 dX0_givenAway_13 rfl rfl ?_
        refine g_get (C := RX0) (T := TX0) (N := 9) 0 3 (fun _ h => List.mem_cons_of_mem _ (List.mem_append_right _ h)) (List.mem_of_getElem? (i := 2) rfl) rfl rfl (by decide) rfl rfl dX0_givenAway_14 ?_
        refine g_iload_n 3 dX0_givenAway_17 rfl rfl ?_
        refine g_iald 1 dX0_givenAway_18 rfl (by decide) (by omega) (by omega) ?_
        have q_2 := hwg i
        refine g_iload_n 1 dX0_givenAway_19 rfl rfl ?_
        refine g_isub dX0_givenAway_20 ?_
        refine g_iconst dX0_givenAway_21 ?_
        refine g_mmax (by unfold R32; omega) (by unfold R32; omega) (List.mem_of_getElem? (i := 3) rfl) (List.mem_of_getElem? (i := 4) rfl) (List.mem_of_getElem? (i := 5) rfl) (List.mem_of_getElem? (i := 6) rfl) (by decide) (Nat.le_of_ble_eq_true rfl) (by decide) dX0_givenAway_22 ?_
        refine g_iadd dX0_givenAway_25 ?_
        refine g_istore_n (lv1 := [(2, .int (iI (w + (max ((wg i) - unit) 0)))), (0, .ref h0), (1, .int (iI unit)), (3, .int (iI i))]) dX0_givenAway_26 rfl (by decide) rfl ?_
        refine g_iinc (lv1 := [(3, .int (iI (i + 1))), (2, .int (iI (w + (max ((wg i) - unit) 0)))), (0, .ref h0), (1, .int (iI unit))]) 3 dX0_givenAway_27 rfl (by decide) rfl ?_
        refine g_goto (tgt := 4) dX0_givenAway_30 rfl ?_
        refine g_lv (lv1 := [(0, .ref h0), (1, .int (iI unit)), (2, .int (iI (w + (max ((wg i) - unit) 0)))), (3, .int (iI (i + 1)))]) [2, 3, 1, 0] rfl ?_
        exact ih4 (i + 1) (w + (max ((wg i) - unit) 0)) (by omega) (by rw [sI_s _ (by omega), ← hw]; (try dsimp only); split <;> omega) (by omega)
  exact L4 _ 0 0 (by omega) (by rfl) (lt_nn _)

set_option maxHeartbeats 4000000 in
set_option maxRecDepth 100000 in
theorem c_X0_lighterThan (E : Ev) (h0 : Nat) (b1 : Nat) (b2 : Nat) (b3 : Nat) (b4 : Nat) (b5 : Nat) (b6 : Nat) (b7 : Nat) (b8 : Nat) (cn : Int) (wg : Int → Int) (least : Int) (hcn : 0 ≤ cn ∧ cn ≤ 200) (hwg : ∀ k, -4 ≤ wg k ∧ wg k ≤ 10000) (h_least : -2147483648 ≤ least ∧ least ≤ 2147483647) : MI yX0_lighterThan wsX0_lighterThan ({ frames := 0, cells := 0, slots := 0, locals := 0 } : Room) E [] 0 0 [.ref h0, .int (iI least)] [(h0, oo 0 [.int (iI cn), .ref b1, .ref b2, .ref b3, .ref b4, .ref b5, .ref b6, .ref b7, .ref b8]), (b3, aI E 200 wg)] (fun r u => ∃ (x : Int), x = sI (fun k => if wg k ≠ -4 ∧ wg k < least then 1 else 0) cn ∧ r = iI x ∧ u = [(h0, oo 0 [.int (iI cn), .ref b1, .ref b2, .ref b3, .ref b4, .ref b5, .ref b6, .ref b7, .ref b8]), (b3, aI E 200 wg)]) := by
  refine MI.of (cc := cX0_lighterThan) (maxL := 4) (own := RX0) (by decide) rfl rfl rfl (Nat.le_of_ble_eq_true rfl) [(0, .ref h0), (1, .int (iI least))] rfl ?_
  intro X hin2 hRet
  refine g_iconst dX0_lighterThan_0 ?_
  refine g_istore_n (lv1 := [(2, .int (iI 0)), (0, .ref h0), (1, .int (iI least))]) dX0_lighterThan_1 rfl (by decide) rfl ?_
  refine g_iconst dX0_lighterThan_2 ?_
  refine g_istore_n (lv1 := [(3, .int (iI 0)), (2, .int (iI 0)), (0, .ref h0), (1, .int (iI least))]) dX0_lighterThan_3 rfl (by decide) rfl ?_
  refine g_lv (lv1 := [(0, .ref h0), (1, .int (iI least)), (2, .int (iI 0)), (3, .int (iI 0))]) [2, 3, 1, 0] rfl ?_
  have L4 : ∀ (nn : Nat) (i : Int) (w : Int) (hi : 0 ≤ i ∧ i ≤ cn) (hw : w = sI (fun k => if wg k ≠ -4 ∧ wg k < least then 1 else 0) i) (hm : cn - i < (nn : Int)), G X ({ frames := 0, cells := 0, slots := 0, locals := 0 } : Room) cX0_lighterThan 4 RX0 wsX0_lighterThan E [] 0 0 [(h0, oo 0 [.int (iI cn), .ref b1, .ref b2, .ref b3, .ref b4, .ref b5, .ref b6, .ref b7, .ref b8]), (b3, aI E 200 wg)] [(0, .ref h0), (1, .int (iI least)), (2, .int (iI w)), (3, .int (iI i))] 4 [] := by
    intro nn
    induction nn with
    | zero => intro i w hi hw hm; exfalso; omega
    | succ nn ih4 =>
      intro i w hi hw hm
      refine g_iload_n 3 dX0_lighterThan_4 rfl rfl ?_
      refine g_aload_n 0 dX0_lighterThan_5 rfl rfl ?_
      refine g_get (C := RX0) (T := TX0) (N := 9) 0 0 (fun _ h => List.mem_cons_of_mem _ (List.mem_append_right _ h)) (List.mem_of_getElem? (i := 1) rfl) rfl rfl (by decide) rfl rfl dX0_lighterThan_6 ?_
      refine g_icmp_ge (tgt := 42) (by unfold R32; omega) (by unfold R32; omega) dX0_lighterThan_9 rfl (fun c_1 => ?_) (fun c_1 => ?_)
      · refine g_iload_n 2 dX0_lighterThan_42 rfl rfl ?_
        exact g_iret hRet dX0_lighterThan_43 rfl ⟨w, (by rw [hw, show i = cn by omega]), rfl, rfl⟩
      · refine g_aload_n 0 dX0_lighterThan_12 rfl rfl ?_
        refine g_get (C := RX0) (T := TX0) (N := 9) 0 3 (fun _ h => List.mem_cons_of_mem _ (List.mem_append_right _ h)) (List.mem_of_getElem? (i := 2) rfl) rfl rfl (by decide) rfl rfl dX0_lighterThan_13 ?_
        refine g_iload_n 3 dX0_lighterThan_16 rfl rfl ?_
        refine g_iald 1 dX0_lighterThan_17 rfl (by decide) (by omega) (by omega) ?_
        have q_2 := hwg i
        refine g_bipush dX0_lighterThan_18 rfl ?_
        refine g_icmp_eq (tgt := 36) (by unfold R32; omega) (by unfold R32; omega) dX0_lighterThan_20 rfl (fun c_3 => ?_) (fun c_3 => ?_)
        · refine g_iinc (lv1 := [(3, .int (iI (i + 1))), (0, .ref h0), (1, .int (iI least)), (2, .int (iI w))]) 3 dX0_lighterThan_36 rfl (by decide) rfl ?_
          refine g_goto (tgt := 4) dX0_lighterThan_39 rfl ?_
          refine g_lv (lv1 := [(0, .ref h0), (1, .int (iI least)), (2, .int (iI w)), (3, .int (iI (i + 1)))]) [1, 2, 3, 0] rfl ?_
          exact ih4 (i + 1) w (by omega) (by rw [sI_s _ (by omega), ← hw]; (try dsimp only); split <;> omega) (by omega)
        · refine g_aload_n 0 dX0_lighterThan_23 rfl rfl ?_
          refine g_get (C := RX0) (T := TX0) (N := 9) 0 3 (fun _ h => List.mem_cons_of_mem _ (List.mem_append_right _ h)) (List.mem_of_getElem? (i := 2) rfl) rfl rfl (by decide) rfl rfl dX0_lighterThan_24 ?_
          refine g_iload_n 3 dX0_lighterThan_27 rfl rfl ?_
          refine g_iald 1 dX0_lighterThan_28 rfl (by decide) (by omega) (by omega) ?_
          have q_4 := hwg i
          refine g_iload_n 1 dX0_lighterThan_29 rfl rfl ?_
          refine g_icmp_ge (tgt := 36) (by unfold R32; omega) (by unfold R32; omega) dX0_lighterThan_30 rfl (fun c_5 => ?_) (fun c_5 => ?_)
          · refine g_iinc (lv1 := [(3, .int (iI (i + 1))), (0, .ref h0), (1, .int (iI least)), (2, .int (iI w))]) 3 dX0_lighterThan_36 rfl (by decide) rfl ?_
            refine g_goto (tgt := 4) dX0_lighterThan_39 rfl ?_
            refine g_lv (lv1 := [(0, .ref h0), (1, .int (iI least)), (2, .int (iI w)), (3, .int (iI (i + 1)))]) [1, 2, 3, 0] rfl ?_
            exact ih4 (i + 1) w (by omega) (by rw [sI_s _ (by omega), ← hw]; (try dsimp only); split <;> omega) (by omega)
          · refine g_iinc (lv1 := [(2, .int (iI (w + 1))), (0, .ref h0), (1, .int (iI least)), (3, .int (iI i))]) 2 dX0_lighterThan_33 rfl (by decide) rfl ?_
            refine g_iinc (lv1 := [(3, .int (iI (i + 1))), (2, .int (iI (w + 1))), (0, .ref h0), (1, .int (iI least))]) 3 dX0_lighterThan_36 rfl (by decide) rfl ?_
            refine g_goto (tgt := 4) dX0_lighterThan_39 rfl ?_
            refine g_lv (lv1 := [(0, .ref h0), (1, .int (iI least)), (2, .int (iI (w + 1))), (3, .int (iI (i + 1)))]) [2, 3, 1, 0] rfl ?_
            exact ih4 (i + 1) (w + 1) (by omega) (by rw [sI_s _ (by omega), ← hw]; (try dsimp only); split <;> omega) (by omega)
  exact L4 _ 0 0 (by omega) (by rfl) (lt_nn _)

set_option maxHeartbeats 4000000 in
set_option maxRecDepth 100000 in
theorem c_X0_weighed (E : Ev) (h0 : Nat) (b1 : Nat) (b2 : Nat) (b3 : Nat) (b4 : Nat) (b5 : Nat) (b6 : Nat) (b7 : Nat) (b8 : Nat) (cn : Int) (wg : Int → Int) (hcn : 0 ≤ cn ∧ cn ≤ 200) (hwg : ∀ k, -4 ≤ wg k ∧ wg k ≤ 10000) : MI yX0_weighed wsX0_weighed ({ frames := 0, cells := 0, slots := 0, locals := 0 } : Room) E [] 0 0 [.ref h0] [(h0, oo 0 [.int (iI cn), .ref b1, .ref b2, .ref b3, .ref b4, .ref b5, .ref b6, .ref b7, .ref b8]), (b3, aI E 200 wg)] (fun r u => ∃ (x : Int), x = sI (fun k => if wg k ≠ -4 then 1 else 0) cn ∧ r = iI x ∧ u = [(h0, oo 0 [.int (iI cn), .ref b1, .ref b2, .ref b3, .ref b4, .ref b5, .ref b6, .ref b7, .ref b8]), (b3, aI E 200 wg)]) := by
  refine MI.of (cc := cX0_weighed) (maxL := 3) (own := RX0) (by decide) rfl rfl rfl (Nat.le_of_ble_eq_true rfl) [(0, .ref h0)] rfl ?_
  intro X hin2 hRet
  refine g_iconst dX0_weighed_0 ?_
  refine g_istore_n (lv1 := [(1, .int (iI 0)), (0, .ref h0)]) dX0_weighed_1 rfl (by decide) rfl ?_
  refine g_iconst dX0_weighed_2 ?_
  refine g_istore_n (lv1 := [(2, .int (iI 0)), (1, .int (iI 0)), (0, .ref h0)]) dX0_weighed_3 rfl (by decide) rfl ?_
  refine g_lv (lv1 := [(0, .ref h0), (1, .int (iI 0)), (2, .int (iI 0))]) [2, 1, 0] rfl ?_
  have L4 : ∀ (nn : Nat) (i : Int) (w : Int) (hi : 0 ≤ i ∧ i ≤ cn) (hw : w = sI (fun k => if wg k ≠ -4 then 1 else 0) i) (hm : cn - i < (nn : Int)), G X ({ frames := 0, cells := 0, slots := 0, locals := 0 } : Room) cX0_weighed 3 RX0 wsX0_weighed E [] 0 0 [(h0, oo 0 [.int (iI cn), .ref b1, .ref b2, .ref b3, .ref b4, .ref b5, .ref b6, .ref b7, .ref b8]), (b3, aI E 200 wg)] [(0, .ref h0), (1, .int (iI w)), (2, .int (iI i))] 4 [] := by
    intro nn
    induction nn with
    | zero => intro i w hi hw hm; exfalso; omega
    | succ nn ih4 =>
      intro i w hi hw hm
      refine g_iload_n 2 dX0_weighed_4 rfl rfl ?_
      refine g_aload_n 0 dX0_weighed_5 rfl rfl ?_
      refine g_get (C := RX0) (T := TX0) (N := 9) 0 0 (fun _ h => List.mem_cons_of_mem _ (List.mem_append_right _ h)) (List.mem_of_getElem? (i := 1) rfl) rfl rfl (by decide) rfl rfl dX0_weighed_6 ?_
      refine g_icmp_ge (tgt := 32) (by unfold R32; omega) (by unfold R32; omega) dX0_weighed_9 rfl (fun c_1 => ?_) (fun c_1 => ?_)
      · refine g_iload_n 1 dX0_weighed_32 rfl rfl ?_
        exact g_iret hRet dX0_weighed_33 rfl ⟨w, (by rw [hw, show i = cn by omega]), rfl, rfl⟩
      · refine g_aload_n 0 dX0_weighed_12 rfl rfl ?_
        refine g_get (C := RX0) (T := TX0) (N := 9) 0 3 (fun _ h => List.mem_cons_of_mem _ (List.mem_append_right _ h)) (List.mem_of_getElem? (i := 2) rfl) rfl rfl (by decide) rfl rfl dX0_weighed_13 ?_
        refine g_iload_n 2 dX0_weighed_16 rfl rfl ?_
        refine g_iald 1 dX0_weighed_17 rfl (by decide) (by omega) (by omega) ?_
        have q_2 := hwg i
        refine g_bipush dX0_weighed_18 rfl ?_
        refine g_icmp_eq (tgt := 26) (by unfold R32; omega) (by unfold R32; omega) dX0_weighed_20 rfl (fun c_3 => ?_) (fun c_3 => ?_)
        · refine g_iinc (lv1 := [(2, .int (iI (i + 1))), (0, .ref h0), (1, .int (iI w))]) 2 dX0_weighed_26 rfl (by decide) rfl ?_
          refine g_goto (tgt := 4) dX0_weighed_29 rfl ?_
          refine g_lv (lv1 := [(0, .ref h0), (1, .int (iI w)), (2, .int (iI (i + 1)))]) [1, 2, 0] rfl ?_
          exact ih4 (i + 1) w (by omega) (by rw [sI_s _ (by omega), ← hw]; (try dsimp only); split <;> omega) (by omega)
        · refine g_iinc (lv1 := [(1, .int (iI (w + 1))), (0, .ref h0), (2, .int (iI i))]) 1 dX0_weighed_23 rfl (by decide) rfl ?_
          refine g_iinc (lv1 := [(2, .int (iI (i + 1))), (1, .int (iI (w + 1))), (0, .ref h0)]) 2 dX0_weighed_26 rfl (by decide) rfl ?_
          refine g_goto (tgt := 4) dX0_weighed_29 rfl ?_
          refine g_lv (lv1 := [(0, .ref h0), (1, .int (iI (w + 1))), (2, .int (iI (i + 1)))]) [2, 1, 0] rfl ?_
          exact ih4 (i + 1) (w + 1) (by omega) (by rw [sI_s _ (by omega), ← hw]; (try dsimp only); split <;> omega) (by omega)
  exact L4 _ 0 0 (by omega) (by rfl) (lt_nn _)

set_option maxHeartbeats 4000000 in
set_option maxRecDepth 100000 in
theorem c_X0_boxesWith (E : Ev) (h0 : Nat) (b1 : Nat) (b2 : Nat) (b3 : Nat) (b4 : Nat) (b5 : Nat) (b6 : Nat) (b7 : Nat) (b8 : Nat) (cn : Int) (lt : Int → Int) (bo : Int → Int) (lot : Int) (hcn : 0 ≤ cn ∧ cn ≤ 200) (hlt : ∀ k, 0 ≤ lt k ∧ lt k ≤ 15) (hbo : ∀ k, -4 ≤ bo k ∧ bo k ≤ 29) (h_lot : -2147483648 ≤ lot ∧ lot ≤ 2147483647) : MI yX0_boxesWith wsX0_boxesWith ({ frames := 2, cells := 0, slots := 0, locals := 42 } : Room) E [] 0 0 [.ref h0, .int (iI lot)] [(h0, oo 0 [.int (iI cn), .ref b1, .ref b2, .ref b3, .ref b4, .ref b5, .ref b6, .ref b7, .ref b8]), (b2, aI E 200 lt), (b1, aI E 200 bo)] (fun r u => ∃ (x : Int32), x = oI (fun k => lt k = lot ∧ 0 ≤ bo k ∧ bo k ≤ 29) (fun k => iI 1 <<< (iI (bo k) &&& 31)) cn ∧ r = x ∧ u = [(h0, oo 0 [.int (iI cn), .ref b1, .ref b2, .ref b3, .ref b4, .ref b5, .ref b6, .ref b7, .ref b8]), (b2, aI E 200 lt), (b1, aI E 200 bo)]) := by
  refine MI.of (cc := cX0_boxesWith) (maxL := 4) (own := RX0) (by decide) rfl rfl rfl (Nat.le_of_ble_eq_true rfl) [(0, .ref h0), (1, .int (iI lot))] rfl ?_
  intro X hin2 hRet
  refine g_iconst dX0_boxesWith_0 ?_
  refine g_istore_n (lv1 := [(2, .int (iI 0)), (0, .ref h0), (1, .int (iI lot))]) dX0_boxesWith_1 rfl (by decide) rfl ?_
  refine g_iconst dX0_boxesWith_2 ?_
  refine g_istore_n (lv1 := [(3, .int (iI 0)), (2, .int (iI 0)), (0, .ref h0), (1, .int (iI lot))]) dX0_boxesWith_3 rfl (by decide) rfl ?_
  refine g_lv (lv1 := [(0, .ref h0), (1, .int (iI lot)), (2, .int (iI 0)), (3, .int (iI 0))]) [2, 3, 1, 0] rfl ?_
  have L4 : ∀ (nn : Nat) (i : Int) (w : Int32) (hi : 0 ≤ i ∧ i ≤ cn) (hw : w = oI (fun k => lt k = lot ∧ 0 ≤ bo k ∧ bo k ≤ 29) (fun k => iI 1 <<< (iI (bo k) &&& 31)) i) (hm : cn - i < (nn : Int)), G X ({ frames := 2, cells := 0, slots := 0, locals := 42 } : Room) cX0_boxesWith 4 RX0 wsX0_boxesWith E [] 0 0 [(h0, oo 0 [.int (iI cn), .ref b1, .ref b2, .ref b3, .ref b4, .ref b5, .ref b6, .ref b7, .ref b8]), (b2, aI E 200 lt), (b1, aI E 200 bo)] [(0, .ref h0), (1, .int (iI lot)), (2, .int w), (3, .int (iI i))] 4 [] := by
    intro nn
    induction nn with
    | zero => intro i w hi hw hm; exfalso; omega
    | succ nn ih4 =>
      intro i w hi hw hm
      refine g_iload_n 3 dX0_boxesWith_4 rfl rfl ?_
      refine g_aload_n 0 dX0_boxesWith_5 rfl rfl ?_
      refine g_get (C := RX0) (T := TX0) (N := 9) 0 0 (fun _ h => List.mem_cons_of_mem _ (List.mem_append_right _ h)) (List.mem_of_getElem? (i := 1) rfl) rfl rfl (by decide) rfl rfl dX0_boxesWith_6 ?_
      refine g_icmp_ge (tgt := 51) (by unfold R32; omega) (by unfold R32; omega) dX0_boxesWith_9 rfl (fun c_1 => ?_) (fun c_1 => ?_)
      · refine g_iload_n 2 dX0_boxesWith_51 rfl rfl ?_
        exact g_iret hRet dX0_boxesWith_52 rfl ⟨w, (by rw [hw, show i = cn by omega]), rfl, rfl⟩
      · refine g_aload_n 0 dX0_boxesWith_12 rfl rfl ?_
        refine g_get (C := RX0) (T := TX0) (N := 9) 0 2 (fun _ h => List.mem_cons_of_mem _ (List.mem_append_right _ h)) (List.mem_of_getElem? (i := 2) rfl) rfl rfl (by decide) rfl rfl dX0_boxesWith_13 ?_
        refine g_iload_n 3 dX0_boxesWith_16 rfl rfl ?_
        refine g_iald 1 dX0_boxesWith_17 rfl (by decide) (by omega) (by omega) ?_
        have q_2 := hlt i
        refine g_iload_n 1 dX0_boxesWith_18 rfl rfl ?_
        refine g_icmp_ne (tgt := 45) (by unfold R32; omega) (by unfold R32; omega) dX0_boxesWith_19 rfl (fun c_3 => ?_) (fun c_3 => ?_)
        · refine g_aload_n 0 dX0_boxesWith_22 rfl rfl ?_
          refine g_get (C := RX0) (T := TX0) (N := 9) 0 1 (fun _ h => List.mem_cons_of_mem _ (List.mem_append_right _ h)) (List.mem_of_getElem? (i := 3) rfl) rfl rfl (by decide) rfl rfl dX0_boxesWith_23 ?_
          refine g_iload_n 3 dX0_boxesWith_26 rfl rfl ?_
          refine g_iald 2 dX0_boxesWith_27 rfl (by decide) (by omega) (by omega) ?_
          have q_4 := hbo i
          refine g_callN_i (n := 1) (As := [.int (iI (bo i))]) (wr := [(h0, oo 0 [.int (iI cn), .ref b1, .ref b2, .ref b3, .ref b4, .ref b5, .ref b6, .ref b7, .ref b8]), (b2, aI E 200 lt), (b1, aI E 200 bo)]) [] (c_X6_isBox E (bo i) (by omega)) [] [0, 1, 2] gX0_boxesWith_X6_isBox_n71 (fun _ h => h.2.2.2.2.2.2.1) (List.mem_of_getElem? (i := 5) rfl) (List.mem_of_getElem? (i := 4) rfl) rfl (by decide +kernel) ⟨by decide, by decide⟩ rfl rfl rfl rfl rfl (by decide) rfl (by decide) (by decide) (fun _ h => absurd h List.not_mem_nil) dX0_boxesWith_28 rfl (Nat.le_of_ble_eq_true rfl) ⟨by decide, by decide⟩ (fun r u p_5 => ?_)
          obtain ⟨rfl, rfl⟩ := p_5
          refine g_perm (ws1 := [(h0, oo 0 [.int (iI cn), .ref b1, .ref b2, .ref b3, .ref b4, .ref b5, .ref b6, .ref b7, .ref b8]), (b2, aI E 200 lt), (b1, aI E 200 bo)]) [0, 1, 2] rfl (by decide) rfl ?_
          refine g_if_eq_b (tgt := 45) dX0_boxesWith_31 rfl (fun c_6 => ?_) (fun c_6 => ?_)
          · refine g_iload_n 2 dX0_boxesWith_34 rfl rfl ?_
            refine g_iconst dX0_boxesWith_35 ?_
            refine g_aload_n 0 dX0_boxesWith_36 rfl rfl ?_
            refine g_get (C := RX0) (T := TX0) (N := 9) 0 1 (fun _ h => List.mem_cons_of_mem _ (List.mem_append_right _ h)) (List.mem_of_getElem? (i := 3) rfl) rfl rfl (by decide) rfl rfl dX0_boxesWith_37 ?_
            refine g_iload_n 3 dX0_boxesWith_40 rfl rfl ?_
            refine g_iald 2 dX0_boxesWith_41 rfl (by decide) (by omega) (by omega) ?_
            have q_7 := hbo i
            refine g_ishl dX0_boxesWith_42 ?_
            refine g_ior dX0_boxesWith_43 ?_
            refine g_istore_n (lv1 := [(2, .int (w ||| ((iI 1) <<< ((iI (bo i)) &&& 31)))), (0, .ref h0), (1, .int (iI lot)), (3, .int (iI i))]) dX0_boxesWith_44 rfl (by decide) rfl ?_
            refine g_iinc (lv1 := [(3, .int (iI (i + 1))), (2, .int (w ||| ((iI 1) <<< ((iI (bo i)) &&& 31)))), (0, .ref h0), (1, .int (iI lot))]) 3 dX0_boxesWith_45 rfl (by decide) rfl ?_
            refine g_goto (tgt := 4) dX0_boxesWith_48 rfl ?_
            refine g_lv (lv1 := [(0, .ref h0), (1, .int (iI lot)), (2, .int (w ||| ((iI 1) <<< ((iI (bo i)) &&& 31)))), (3, .int (iI (i + 1)))]) [2, 3, 1, 0] rfl ?_
            exact ih4 (i + 1) (w ||| ((iI 1) <<< ((iI (bo i)) &&& 31))) (by omega) (by rw [oI_s _ _ (by omega), ← hw]; first | (rw [if_pos (by omega)]; done) | (rw [if_neg (by omega)]; done)) (by omega)
          · refine g_iinc (lv1 := [(3, .int (iI (i + 1))), (0, .ref h0), (1, .int (iI lot)), (2, .int w)]) 3 dX0_boxesWith_45 rfl (by decide) rfl ?_
            refine g_goto (tgt := 4) dX0_boxesWith_48 rfl ?_
            refine g_lv (lv1 := [(0, .ref h0), (1, .int (iI lot)), (2, .int w), (3, .int (iI (i + 1)))]) [1, 2, 3, 0] rfl ?_
            exact ih4 (i + 1) w (by omega) (by rw [oI_s _ _ (by omega), ← hw]; first | (rw [if_pos (by omega)]; done) | (rw [if_neg (by omega)]; done)) (by omega)
        · refine g_iinc (lv1 := [(3, .int (iI (i + 1))), (0, .ref h0), (1, .int (iI lot)), (2, .int w)]) 3 dX0_boxesWith_45 rfl (by decide) rfl ?_
          refine g_goto (tgt := 4) dX0_boxesWith_48 rfl ?_
          refine g_lv (lv1 := [(0, .ref h0), (1, .int (iI lot)), (2, .int w), (3, .int (iI (i + 1)))]) [1, 2, 3, 0] rfl ?_
          exact ih4 (i + 1) w (by omega) (by rw [oI_s _ _ (by omega), ← hw]; first | (rw [if_pos (by omega)]; done) | (rw [if_neg (by omega)]; done)) (by omega)
  exact L4 _ 0 (iI 0) (by omega) (by rfl) (lt_nn _)

set_option maxHeartbeats 4000000 in
set_option maxRecDepth 100000 in
theorem c_X0_palletsWith (E : Ev) (h0 : Nat) (b1 : Nat) (b2 : Nat) (b3 : Nat) (b4 : Nat) (b5 : Nat) (b6 : Nat) (b7 : Nat) (b8 : Nat) (cn : Int) (lt : Int → Int) (bo : Int → Int) (pl : Int → Int) (lot : Int) (hcn : 0 ≤ cn ∧ cn ≤ 200) (hlt : ∀ k, 0 ≤ lt k ∧ lt k ≤ 15) (hbo : ∀ k, -4 ≤ bo k ∧ bo k ≤ 29) (hpl : ∀ k, -4 ≤ pl k ∧ pl k ≤ 5) (h_lot : -2147483648 ≤ lot ∧ lot ≤ 2147483647) : MI yX0_palletsWith wsX0_palletsWith ({ frames := 3, cells := 0, slots := 0, locals := 64 } : Room) E [] 0 0 [.ref h0, .int (iI lot)] [(h0, oo 0 [.int (iI cn), .ref b1, .ref b2, .ref b3, .ref b4, .ref b5, .ref b6, .ref b7, .ref b8]), (b2, aI E 200 lt), (b1, aI E 200 bo), (b6, aI E 30 pl)] (fun r u => ∃ (x : Int32), x = oI (fun k => lt k = lot ∧ 0 ≤ pOf bo pl k ∧ pOf bo pl k ≤ 5) (fun k => iI 1 <<< (iI (pOf bo pl k) &&& 31)) cn ∧ r = x ∧ u = [(h0, oo 0 [.int (iI cn), .ref b1, .ref b2, .ref b3, .ref b4, .ref b5, .ref b6, .ref b7, .ref b8]), (b2, aI E 200 lt), (b1, aI E 200 bo), (b6, aI E 30 pl)]) := by
  refine MI.of (cc := cX0_palletsWith) (maxL := 5) (own := RX0) (by decide) rfl rfl rfl (Nat.le_of_ble_eq_true rfl) [(0, .ref h0), (1, .int (iI lot))] rfl ?_
  intro X hin2 hRet
  refine g_iconst dX0_palletsWith_0 ?_
  refine g_istore_n (lv1 := [(2, .int (iI 0)), (0, .ref h0), (1, .int (iI lot))]) dX0_palletsWith_1 rfl (by decide) rfl ?_
  refine g_iconst dX0_palletsWith_2 ?_
  refine g_istore_n (lv1 := [(3, .int (iI 0)), (2, .int (iI 0)), (0, .ref h0), (1, .int (iI lot))]) dX0_palletsWith_3 rfl (by decide) rfl ?_
  refine g_lv (lv1 := [(0, .ref h0), (1, .int (iI lot)), (2, .int (iI 0)), (3, .int (iI 0))]) [2, 3, 1, 0] rfl ?_
  have L4 : ∀ (nn : Nat) (i : Int) (w : Int32) (hi : 0 ≤ i ∧ i ≤ cn) (hw : w = oI (fun k => lt k = lot ∧ 0 ≤ pOf bo pl k ∧ pOf bo pl k ≤ 5) (fun k => iI 1 <<< (iI (pOf bo pl k) &&& 31)) i) (hm : cn - i < (nn : Int)), G X ({ frames := 3, cells := 0, slots := 0, locals := 64 } : Room) cX0_palletsWith 5 RX0 wsX0_palletsWith E [] 0 0 [(h0, oo 0 [.int (iI cn), .ref b1, .ref b2, .ref b3, .ref b4, .ref b5, .ref b6, .ref b7, .ref b8]), (b2, aI E 200 lt), (b1, aI E 200 bo), (b6, aI E 30 pl)] [(0, .ref h0), (1, .int (iI lot)), (2, .int w), (3, .int (iI i))] 4 [] := by
    intro nn
    induction nn with
    | zero => intro i w hi hw hm; exfalso; omega
    | succ nn ih4 =>
      intro i w hi hw hm
      refine g_iload_n 3 dX0_palletsWith_4 rfl rfl ?_
      refine g_aload_n 0 dX0_palletsWith_5 rfl rfl ?_
      refine g_get (C := RX0) (T := TX0) (N := 9) 0 0 (fun _ h => List.mem_cons_of_mem _ (List.mem_append_right _ h)) (List.mem_of_getElem? (i := 1) rfl) rfl rfl (by decide) rfl rfl dX0_palletsWith_6 ?_
      refine g_icmp_ge (tgt := 50) (by unfold R32; omega) (by unfold R32; omega) dX0_palletsWith_9 rfl (fun c_1 => ?_) (fun c_1 => ?_)
      · refine g_iload_n 2 dX0_palletsWith_50 rfl rfl ?_
        exact g_iret hRet dX0_palletsWith_51 rfl ⟨w, (by rw [hw, show i = cn by omega]), rfl, rfl⟩
      · refine g_aload_n 0 dX0_palletsWith_12 rfl rfl ?_
        refine g_iload_n 3 dX0_palletsWith_13 rfl rfl ?_
        refine g_callV_i (n := 1) (As := [.int (iI i)]) (wr := [(b2, aI E 200 lt)]) (C := RX0) [] (c_X0_palletOfCode E h0 b1 b2 b3 b4 b5 b6 b7 b8 cn bo pl i (by omega) (by omega) (by omega) (by omega) (by omega)) [0, 2, 3] [1] 0 rfl rfl gX0_palletsWith_X0_palletOfCode rfl ⟨rfl, by decide +kernel⟩ ⟨by decide, by decide⟩ rfl rfl rfl rfl rfl (by decide) rfl (by decide) (by decide) (fun _ h => absurd h List.not_mem_nil) dX0_palletsWith_14 rfl (Nat.le_of_ble_eq_true rfl) ⟨by decide, by decide⟩ (fun r u p_2 => ?_)
        obtain ⟨rfl, rfl⟩ := p_2
        refine g_perm (ws1 := [(h0, oo 0 [.int (iI cn), .ref b1, .ref b2, .ref b3, .ref b4, .ref b5, .ref b6, .ref b7, .ref b8]), (b2, aI E 200 lt), (b1, aI E 200 bo), (b6, aI E 30 pl)]) [1, 0, 2, 3] rfl (by decide) rfl ?_
        have hpo : -4 ≤ pOf bo pl i ∧ pOf bo pl i ≤ 5 := by unfold pOf; have q1 := hpl (bo i); split <;> omega
        refine g_istore (lv1 := [(4, .int (iI (pOf bo pl i))), (0, .ref h0), (1, .int (iI lot)), (2, .int w), (3, .int (iI i))]) dX0_palletsWith_17 (by decide) rfl ?_
        refine g_aload_n 1 dX0_palletsWith_19 rfl rfl ?_
        refine g_get (C := RX0) (T := TX0) (N := 9) 0 2 (fun _ h => List.mem_cons_of_mem _ (List.mem_append_right _ h)) (List.mem_of_getElem? (i := 2) rfl) rfl rfl (by decide) rfl rfl dX0_palletsWith_20 ?_
        refine g_iload_n 4 dX0_palletsWith_23 rfl rfl ?_
        refine g_iald 1 dX0_palletsWith_24 rfl (by decide) (by omega) (by omega) ?_
        have q_3 := hlt i
        refine g_iload_n 2 dX0_palletsWith_25 rfl rfl ?_
        refine g_icmp_ne (tgt := 44) (by unfold R32; omega) (by unfold R32; omega) dX0_palletsWith_26 rfl (fun c_4 => ?_) (fun c_4 => ?_)
        · refine g_iload 0 dX0_palletsWith_29 rfl ?_
          refine g_callN_i (n := 1) (As := [.int (iI (pOf bo pl i))]) (wr := [(h0, oo 0 [.int (iI cn), .ref b1, .ref b2, .ref b3, .ref b4, .ref b5, .ref b6, .ref b7, .ref b8]), (b2, aI E 200 lt), (b1, aI E 200 bo), (b6, aI E 30 pl)]) [] (c_X6_isPallet E (pOf bo pl i) (by omega)) [] [0, 1, 2, 3] gX0_palletsWith_X6_isPallet_n77 (fun _ h => h.2.2.2.2.2.2.2.1) (List.mem_of_getElem? (i := 11) rfl) (List.mem_of_getElem? (i := 16) rfl) rfl (by decide +kernel) ⟨by decide, by decide⟩ rfl rfl rfl rfl rfl (by decide) rfl (by decide) (by decide) (fun _ h => absurd h List.not_mem_nil) dX0_palletsWith_31 rfl (Nat.le_of_ble_eq_true rfl) ⟨by decide, by decide⟩ (fun r u p_5 => ?_)
          obtain ⟨rfl, rfl⟩ := p_5
          refine g_perm (ws1 := [(h0, oo 0 [.int (iI cn), .ref b1, .ref b2, .ref b3, .ref b4, .ref b5, .ref b6, .ref b7, .ref b8]), (b2, aI E 200 lt), (b1, aI E 200 bo), (b6, aI E 30 pl)]) [0, 1, 2, 3] rfl (by decide) rfl ?_
          refine g_if_eq_b (tgt := 44) dX0_palletsWith_34 rfl (fun c_6 => ?_) (fun c_6 => ?_)
          · refine g_iload_n 3 dX0_palletsWith_37 rfl rfl ?_
            refine g_iconst dX0_palletsWith_38 ?_
            refine g_iload 0 dX0_palletsWith_39 rfl ?_
            refine g_ishl dX0_palletsWith_41 ?_
            refine g_ior dX0_palletsWith_42 ?_
            refine g_istore_n (lv1 := [(2, .int (w ||| ((iI 1) <<< ((iI (pOf bo pl i)) &&& 31)))), (4, .int (iI (pOf bo pl i))), (0, .ref h0), (1, .int (iI lot)), (3, .int (iI i))]) dX0_palletsWith_43 rfl (by decide) rfl ?_
            refine g_iinc (lv1 := [(3, .int (iI (i + 1))), (2, .int (w ||| ((iI 1) <<< ((iI (pOf bo pl i)) &&& 31)))), (4, .int (iI (pOf bo pl i))), (0, .ref h0), (1, .int (iI lot))]) 4 dX0_palletsWith_44 rfl (by decide) rfl ?_
            refine g_goto (tgt := 4) dX0_palletsWith_47 rfl ?_
            refine g_lv (lv1 := [(0, .ref h0), (1, .int (iI lot)), (2, .int (w ||| ((iI 1) <<< ((iI (pOf bo pl i)) &&& 31)))), (3, .int (iI (i + 1)))]) [3, 4, 1, 0] rfl ?_
            exact ih4 (i + 1) (w ||| ((iI 1) <<< ((iI (pOf bo pl i)) &&& 31))) (by omega) (by rw [oI_s _ _ (by omega), ← hw]; first | (rw [if_pos (by omega)]; done) | (rw [if_neg (by omega)]; done)) (by omega)
          · refine g_iinc (lv1 := [(3, .int (iI (i + 1))), (4, .int (iI (pOf bo pl i))), (0, .ref h0), (1, .int (iI lot)), (2, .int w)]) 4 dX0_palletsWith_44 rfl (by decide) rfl ?_
            refine g_goto (tgt := 4) dX0_palletsWith_47 rfl ?_
            refine g_lv (lv1 := [(0, .ref h0), (1, .int (iI lot)), (2, .int w), (3, .int (iI (i + 1)))]) [2, 3, 4, 0] rfl ?_
            exact ih4 (i + 1) w (by omega) (by rw [oI_s _ _ (by omega), ← hw]; first | (rw [if_pos (by omega)]; done) | (rw [if_neg (by omega)]; done)) (by omega)
        · refine g_iinc (lv1 := [(3, .int (iI (i + 1))), (4, .int (iI (pOf bo pl i))), (0, .ref h0), (1, .int (iI lot)), (2, .int w)]) 4 dX0_palletsWith_44 rfl (by decide) rfl ?_
          refine g_goto (tgt := 4) dX0_palletsWith_47 rfl ?_
          refine g_lv (lv1 := [(0, .ref h0), (1, .int (iI lot)), (2, .int w), (3, .int (iI (i + 1)))]) [2, 3, 4, 0] rfl ?_
          exact ih4 (i + 1) w (by omega) (by rw [oI_s _ _ (by omega), ← hw]; first | (rw [if_pos (by omega)]; done) | (rw [if_neg (by omega)]; done)) (by omega)
  exact L4 _ 0 (iI 0) (by omega) (by rfl) (lt_nn _)

set_option maxHeartbeats 4000000 in
set_option maxRecDepth 100000 in
theorem c_X0_putWeight (E : Ev) (h0 : Nat) (b1 : Nat) (b2 : Nat) (b3 : Nat) (b4 : Nat) (b5 : Nat) (b6 : Nat) (b7 : Nat) (b8 : Nat) (cn : Int) (wg : Int → Int) (code : Int) (v : Int) (hcn : 0 ≤ cn ∧ cn ≤ 200) (hwg : ∀ k, -4 ≤ wg k ∧ wg k ≤ 10000) (h_code : -2147483648 ≤ code ∧ code ≤ 2147483647) (h_v : -2147483648 ≤ v ∧ v ≤ 2147483647) (hco : 0 ≤ code ∧ code < cn) : MI yX0_putWeight wsX0_putWeight ({ frames := 0, cells := 0, slots := 0, locals := 0 } : Room) E [] 0 0 [.ref h0, .int (iI code), .int (iI v)] [(h0, oo 0 [.int (iI cn), .ref b1, .ref b2, .ref b3, .ref b4, .ref b5, .ref b6, .ref b7, .ref b8]), (b3, aI E 200 wg)] (fun r u => r = iI (wg code) ∧ u = [(h0, oo 0 [.int (iI cn), .ref b1, .ref b2, .ref b3, .ref b4, .ref b5, .ref b6, .ref b7, .ref b8]), (b3, aI E 200 (up wg code v))]) := by
  refine MI.of (cc := cX0_putWeight) (maxL := 4) (own := RX0) (by decide) rfl rfl rfl (Nat.le_of_ble_eq_true rfl) [(0, .ref h0), (1, .int (iI code)), (2, .int (iI v))] rfl ?_
  intro X hin2 hRet
  refine g_aload_n 0 dX0_putWeight_0 rfl rfl ?_
  refine g_get (C := RX0) (T := TX0) (N := 9) 0 3 (fun _ h => List.mem_cons_of_mem _ (List.mem_append_right _ h)) (List.mem_of_getElem? (i := 1) rfl) rfl rfl (by decide) rfl rfl dX0_putWeight_1 ?_
  refine g_iload_n 1 dX0_putWeight_4 rfl rfl ?_
  refine g_iald 1 dX0_putWeight_5 rfl (by decide) (by omega) (by omega) ?_
  have q_1 := hwg code
  refine g_istore_n (lv1 := [(3, .int (iI (wg code))), (0, .ref h0), (1, .int (iI code)), (2, .int (iI v))]) dX0_putWeight_6 rfl (by decide) rfl ?_
  refine g_aload_n 1 dX0_putWeight_7 rfl rfl ?_
  refine g_get (C := RX0) (T := TX0) (N := 9) 0 3 (fun _ h => List.mem_cons_of_mem _ (List.mem_append_right _ h)) (List.mem_of_getElem? (i := 1) rfl) rfl rfl (by decide) rfl rfl dX0_putWeight_8 ?_
  refine g_iload_n 2 dX0_putWeight_11 rfl rfl ?_
  refine g_iload_n 3 dX0_putWeight_12 rfl rfl ?_
  refine g_iast (ws1 := [(h0, oo 0 [.int (iI cn), .ref b1, .ref b2, .ref b3, .ref b4, .ref b5, .ref b6, .ref b7, .ref b8]), (b3, aI E 200 (up wg code v))]) 1 dX0_putWeight_13 rfl rfl (by decide) (by omega) (by omega) ?_
  refine g_iload_n 0 dX0_putWeight_14 rfl rfl ?_
  exact g_iret hRet dX0_putWeight_15 rfl ⟨rfl, rfl⟩

end CODES
