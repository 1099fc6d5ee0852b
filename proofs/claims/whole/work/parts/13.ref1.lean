section REF1
def fMo (ra : Nat → Nat) (mm nf ti so ta go sl lo cn lx ly pm pi : Int) : List Value := [.int (iI mm), .ref (ra 1), .ref (ra 2), .ref (ra 3), .ref (ra 4), .ref (ra 5), .ref (ra 6), .ref (ra 7), .ref (ra 8), .ref (ra 9), .ref (ra 10), .ref (ra 11), .ref (ra 12), .ref (ra 13), .int (iI nf), .ref (ra 15), .ref (ra 16), .ref (ra 17), .int (iI ti), .int (iI so), .int (iI ta), .int (iI go), .int (iI sl), .ref (ra 23), .int (iI lo), .int (iI cn), .ref (ra 26), .ref (ra 27), .ref (ra 28), .ref (ra 29), .ref (ra 30), .ref (ra 31), .ref (ra 32), .ref (ra 33), .ref (ra 34), .int (iI lx), .int (iI ly), .ref (ra 37), .int (iI pm), .ref (ra 39), .int (iI pi), .ref (ra 41), .ref (ra 42)]

def ctI (f : Int → Int) (n c : Int) : Int := sI (fun k => if f k = c then 1 else 0) n
theorem ct_b (f : Int → Int) (c : Int) : ∀ n : Nat, 0 ≤ sm (fun k => if f k = c then 1 else 0) n ∧ sm (fun k => if f k = c then 1 else 0) n ≤ n
  | 0 => ⟨Int.le_refl 0, Int.le_refl 0⟩
  | n + 1 => by
    have h := ct_b f c n
    have e : sm (fun k => if f k = c then 1 else 0) (n + 1) = sm (fun k => if f k = c then 1 else 0) n + (if f (n : Int) = c then 1 else 0) := rfl
    rw [e]
    split <;> omega
theorem ctI_b (f : Int → Int) {n : Int} (c : Int) (h : 0 ≤ n) : 0 ≤ ctI f n c ∧ ctI f n c ≤ n := by
  have := ct_b f c n.toNat
  unfold ctI sI
  omega
theorem ct_0 (f : Int → Int) (c : Int) : ∀ n : Nat, sm (fun k => if f k = c then 1 else 0) n = 0 → ∀ k : Int, 0 ≤ k → k < n → f k ≠ c
  | 0, _, k, h0, h1 => by omega
  | n + 1, h, k, h0, h1 => by
    have e : sm (fun k => if f k = c then 1 else 0) (n + 1) = sm (fun k => if f k = c then 1 else 0) n + (if f (n : Int) = c then 1 else 0) := rfl
    rw [e] at h
    have hb := ct_b f c n
    by_cases hk : k = n
    · rw [hk]; intro q; rw [if_pos q] at h; omega
    · refine ct_0 f c n ?_ k h0 (by omega)
      split at h <;> omega
theorem ctI_0 {f : Int → Int} {n c : Int} (h : ctI f n c = 0) : ∀ k, 0 ≤ k → k < n → f k ≠ c := fun k h0 h1 => ct_0 f c n.toNat h k h0 (by omega)
theorem ct_up (f : Int → Int) (i v c : Int) : ∀ n : Nat, sm (fun k => if up f i v k = c then 1 else 0) n = sm (fun k => if f k = c then 1 else 0) n + (if 0 ≤ i ∧ i < n then (if v = c then 1 else 0) - (if f i = c then 1 else 0) else 0)
  | 0 => by
    rw [if_neg (by omega)]; rfl
  | n + 1 => by
    have e1 : sm (fun k => if up f i v k = c then 1 else 0) (n + 1) = sm (fun k => if up f i v k = c then 1 else 0) n + (if up f i v (n : Int) = c then 1 else 0) := rfl
    have e2 : sm (fun k => if f k = c then 1 else 0) (n + 1) = sm (fun k => if f k = c then 1 else 0) n + (if f (n : Int) = c then 1 else 0) := rfl
    rw [e1, e2, ct_up f i v c n]
    by_cases hi : (n : Int) = i
    · subst hi
      rw [up_s, if_neg (show ¬ (0 ≤ (n : Int) ∧ (n : Int) < (n : Int)) by omega), if_pos (show 0 ≤ (n : Int) ∧ (n : Int) < ((n + 1 : Nat) : Int) by omega)]
      omega
    · rw [up_n f v hi]
      by_cases h0 : 0 ≤ i ∧ i < n
      · rw [if_pos h0, if_pos (show 0 ≤ i ∧ i < ((n + 1 : Nat) : Int) by omega)]; omega
      · rw [if_neg h0, if_neg (show ¬ (0 ≤ i ∧ i < ((n + 1 : Nat) : Int)) by omega)]; omega
theorem ctI_up {f : Int → Int} {i n : Int} (v c : Int) (h0 : 0 ≤ i) (h1 : i < n) : ctI (up f i v) n c = ctI f n c + (if v = c then 1 else 0) - (if f i = c then 1 else 0) := by
  have h := ct_up f i v c n.toNat
  rw [if_pos (by omega)] at h
  unfold ctI sI
  omega
theorem isL_s {bo : Int → Int} {cn box i w : Int} (h : (w = -4 ∧ ∀ k, i < k → k < cn → bo k ≠ box) ∨ (i < w ∧ w < cn ∧ bo w = box ∧ ∀ k, i < k → k < w → bo k ≠ box)) (hn : ¬ bo i = box) : (w = -4 ∧ ∀ k, i - 1 < k → k < cn → bo k ≠ box) ∨ (i - 1 < w ∧ w < cn ∧ bo w = box ∧ ∀ k, i - 1 < k → k < w → bo k ≠ box) := by
  rcases h with ⟨h1, h2⟩ | ⟨h1, h2, h3, h4⟩
  · left; refine ⟨h1, fun k k1 k2 => ?_⟩
    by_cases e : k = i
    · rw [e]; exact hn
    · exact h2 k (by omega) k2
  · right; refine ⟨by omega, h2, h3, fun k k1 k2 => ?_⟩
    by_cases e : k = i
    · rw [e]; exact hn
    · exact h4 k (by omega) k2

set_option maxHeartbeats 4000000 in
set_option maxRecDepth 100000 in
theorem c_X7_in (E : Ev) (v : Int) (lo : Int) (hi : Int) (hv : -2147483648 ≤ v ∧ v ≤ 2147483647) (hlo : -2147483648 ≤ lo ∧ lo ≤ 2147483647) (hhi : -2147483648 ≤ hi ∧ hi ≤ 2147483647) : MI yX7_in wsX7_in ({ frames := 0, cells := 0, slots := 0, locals := 0 } : Room) E [] 0 0 [.int (iI v), .int (iI lo), .int (iI hi)] [] (fun r u => r = iI (bI (lo ≤ v ∧ v ≤ hi)) ∧ u = []) := by
  refine MI.of (cc := cX7_in) (maxL := 3) (own := RX7) (by decide) rfl rfl rfl (Nat.le_of_ble_eq_true rfl) [(0, .int (iI v)), (1, .int (iI lo)), (2, .int (iI hi))] rfl ?_
  intro X hin2 hRet
  refine g_iload_n 0 dX7_in_0 rfl rfl ?_
  refine g_iload_n 1 dX7_in_1 rfl rfl ?_
  refine g_icmp_lt (tgt := 14) (by unfold R32; omega) (by unfold R32; omega) dX7_in_2 rfl (fun c_1 => ?_) (fun c_1 => ?_)
  · refine g_iconst dX7_in_14 ?_
    exact g_iret hRet dX7_in_15 rfl ⟨(bI_f (by omega)), rfl⟩
  · refine g_iload_n 0 dX7_in_5 rfl rfl ?_
    refine g_iload_n 2 dX7_in_6 rfl rfl ?_
    refine g_icmp_gt (tgt := 14) (by unfold R32; omega) (by unfold R32; omega) dX7_in_7 rfl (fun c_2 => ?_) (fun c_2 => ?_)
    · refine g_iconst dX7_in_14 ?_
      exact g_iret hRet dX7_in_15 rfl ⟨(bI_f (by omega)), rfl⟩
    · refine g_iconst dX7_in_10 ?_
      refine g_goto (tgt := 15) dX7_in_11 rfl ?_
      exact g_iret hRet dX7_in_15 rfl ⟨(bI_t (by omega)), rfl⟩

set_option maxHeartbeats 4000000 in
set_option maxRecDepth 100000 in
theorem c_X7_isCase (E : Ev) (v : Int) (hv : -2147483648 ≤ v ∧ v ≤ 2147483647) : MI yX7_isCase wsX7_isCase ({ frames := 1, cells := 0, slots := 0, locals := 22 } : Room) E [] 0 0 [.int (iI v)] [] (fun r u => r = iI (bI (0 ≤ v ∧ v ≤ 29)) ∧ u = []) := by
  refine MI.of (cc := cX7_isCase) (maxL := 1) (own := RX7) (by decide) rfl rfl rfl (Nat.le_of_ble_eq_true rfl) [(0, .int (iI v))] rfl ?_
  intro X hin2 hRet
  refine g_iload_n 0 dX7_isCase_0 rfl rfl ?_
  refine g_iconst dX7_isCase_1 ?_
  refine g_bipush dX7_isCase_2 rfl ?_
  refine g_callS_i (n := 3) (As := [.int (iI v), .int (iI 0), .int (iI 29)]) (wr := []) [] (c_X7_in E v 0 29 (by omega) (by omega) (by omega)) [] [] gX7_isCase_X7_in rfl ⟨rfl, by decide +kernel⟩ ⟨by decide, by decide⟩ rfl rfl rfl rfl rfl (by decide) rfl (by decide) (by decide) (fun _ h => absurd h List.not_mem_nil) dX7_isCase_4 rfl (Nat.le_of_ble_eq_true rfl) ⟨by decide, by decide⟩ (fun r u p_1 => ?_)
  obtain ⟨rfl, rfl⟩ := p_1
  refine g_perm (ws1 := []) [] rfl (by decide) rfl ?_
  exact g_iret hRet dX7_isCase_7 (nar_b _) ⟨rfl, rfl⟩

set_option maxHeartbeats 4000000 in
set_option maxRecDepth 100000 in
theorem c_X7_isPallet (E : Ev) (v : Int) (hv : -2147483648 ≤ v ∧ v ≤ 2147483647) : MI yX7_isPallet wsX7_isPallet ({ frames := 1, cells := 0, slots := 0, locals := 22 } : Room) E [] 0 0 [.int (iI v)] [] (fun r u => r = iI (bI (0 ≤ v ∧ v ≤ 5)) ∧ u = []) := by
  refine MI.of (cc := cX7_isPallet) (maxL := 1) (own := RX7) (by decide) rfl rfl rfl (Nat.le_of_ble_eq_true rfl) [(0, .int (iI v))] rfl ?_
  intro X hin2 hRet
  refine g_iload_n 0 dX7_isPallet_0 rfl rfl ?_
  refine g_iconst dX7_isPallet_1 ?_
  refine g_iconst dX7_isPallet_2 ?_
  refine g_callS_i (n := 3) (As := [.int (iI v), .int (iI 0), .int (iI 5)]) (wr := []) [] (c_X7_in E v 0 5 (by omega) (by omega) (by omega)) [] [] gX7_isPallet_X7_in rfl ⟨rfl, by decide +kernel⟩ ⟨by decide, by decide⟩ rfl rfl rfl rfl rfl (by decide) rfl (by decide) (by decide) (fun _ h => absurd h List.not_mem_nil) dX7_isPallet_3 rfl (Nat.le_of_ble_eq_true rfl) ⟨by decide, by decide⟩ (fun r u p_1 => ?_)
  obtain ⟨rfl, rfl⟩ := p_1
  refine g_perm (ws1 := []) [] rfl (by decide) rfl ?_
  exact g_iret hRet dX7_isPallet_6 (nar_b _) ⟨rfl, rfl⟩

set_option maxHeartbeats 4000000 in
set_option maxRecDepth 100000 in
theorem c_X7_isCode (E : Ev) (m0 : Nat) (ra : Nat → Nat) (mm : Int) (nf : Int) (ti : Int) (so : Int) (ta : Int) (go : Int) (sl : Int) (lo : Int) (cn : Int) (lx : Int) (ly : Int) (pm : Int) (pi : Int) (code : Int) (hcn : 0 ≤ cn ∧ cn ≤ 200) (h_code : -2147483648 ≤ code ∧ code ≤ 2147483647) : MI yX7_isCode wsX7_isCode ({ frames := 1, cells := 0, slots := 0, locals := 22 } : Room) E [] 0 0 [.ref m0, .int (iI code)] [(m0, oo 7 (fMo ra mm nf ti so ta go sl lo cn lx ly pm pi))] (fun r u => r = iI (bI (0 ≤ code ∧ code ≤ cn - 1)) ∧ u = [(m0, oo 7 (fMo ra mm nf ti so ta go sl lo cn lx ly pm pi))]) := by
  refine MI.of (cc := cX7_isCode) (maxL := 2) (own := RX7) (by decide) rfl rfl rfl (Nat.le_of_ble_eq_true rfl) [(0, .ref m0), (1, .int (iI code))] rfl ?_
  intro X hin2 hRet
  refine g_iload_n 1 dX7_isCode_0 rfl rfl ?_
  refine g_iconst dX7_isCode_1 ?_
  refine g_aload_n 0 dX7_isCode_2 rfl rfl ?_
  refine g_get (C := RX7) (T := TX7) (N := 43) 0 25 (fun _ h => List.mem_cons_of_mem _ (List.mem_append_right _ h)) (List.mem_of_getElem? (i := 1) rfl) rfl rfl (by decide) rfl rfl dX7_isCode_3 ?_
  refine g_iconst dX7_isCode_6 ?_
  refine g_isub dX7_isCode_7 ?_
  refine g_callS_i (n := 3) (As := [.int (iI code), .int (iI 0), .int (iI (cn - 1))]) (wr := [(m0, oo 7 (fMo ra mm nf ti so ta go sl lo cn lx ly pm pi))]) [] (c_X7_in E code 0 (cn - 1) (by omega) (by omega) (by omega)) [] [0] gX7_isCode_X7_in rfl ⟨rfl, by decide +kernel⟩ ⟨by decide, by decide⟩ rfl rfl rfl rfl rfl (by decide) rfl (by decide) (by decide) (fun _ h => absurd h List.not_mem_nil) dX7_isCode_8 rfl (Nat.le_of_ble_eq_true rfl) ⟨by decide, by decide⟩ (fun r u p_1 => ?_)
  obtain ⟨rfl, rfl⟩ := p_1
  refine g_perm (ws1 := [(m0, oo 7 (fMo ra mm nf ti so ta go sl lo cn lx ly pm pi))]) [0] rfl (by decide) rfl ?_
  exact g_iret hRet dX7_isCode_11 (nar_b _) ⟨(bI_c (by omega)), rfl⟩

set_option maxHeartbeats 4000000 in
set_option maxRecDepth 100000 in
theorem c_X7_units (E : Ev) (m0 : Nat) (ra : Nat → Nat) (mm : Int) (nf : Int) (ti : Int) (so : Int) (ta : Int) (go : Int) (sl : Int) (lo : Int) (cn : Int) (lx : Int) (ly : Int) (pm : Int) (pi : Int) (bo : Int → Int) (c : Int) (hcn : 0 ≤ cn ∧ cn ≤ 200) (hbo : ∀ k, (bo k = -4 ∨ 0 ≤ bo k) ∧ bo k ≤ 29) (h_c : -2147483648 ≤ c ∧ c ≤ 2147483647) : MI yX7_units wsX7_units ({ frames := 0, cells := 0, slots := 0, locals := 0 } : Room) E [] 0 0 [.ref m0, .int (iI c)] [(m0, oo 7 (fMo ra mm nf ti so ta go sl lo cn lx ly pm pi)), (ra 27, aI E 200 bo)] (fun r u => r = iI (ctI bo cn c) ∧ u = [(m0, oo 7 (fMo ra mm nf ti so ta go sl lo cn lx ly pm pi)), (ra 27, aI E 200 bo)]) := by
  refine MI.of (cc := cX7_units) (maxL := 4) (own := RX7) (by decide) rfl rfl rfl (Nat.le_of_ble_eq_true rfl) [(0, .ref m0), (1, .int (iI c))] rfl ?_
  intro X hin2 hRet
  refine g_iconst dX7_units_0 ?_
  refine g_istore_n (lv1 := [(2, .int (iI 0)), (0, .ref m0), (1, .int (iI c))]) dX7_units_1 rfl (by decide) rfl ?_
  refine g_iconst dX7_units_2 ?_
  refine g_istore_n (lv1 := [(3, .int (iI 0)), (2, .int (iI 0)), (0, .ref m0), (1, .int (iI c))]) dX7_units_3 rfl (by decide) rfl ?_
  refine g_lv (lv1 := [(0, .ref m0), (1, .int (iI c)), (2, .int (iI 0)), (3, .int (iI 0))]) [2, 3, 1, 0] rfl ?_
  have L4 : ∀ (nn : Nat) (i : Int) (w : Int) (hi : 0 ≤ i ∧ i ≤ cn) (hw : w = ctI bo i c) (hm : cn - i < (nn : Int)), G X ({ frames := 0, cells := 0, slots := 0, locals := 0 } : Room) cX7_units 4 RX7 wsX7_units E [] 0 0 [(m0, oo 7 (fMo ra mm nf ti so ta go sl lo cn lx ly pm pi)), (ra 27, aI E 200 bo)] [(0, .ref m0), (1, .int (iI c)), (2, .int (iI w)), (3, .int (iI i))] 4 [] := by
    intro nn
    induction nn with
    | zero => intro i w hi hw hm; exfalso; omega
    | succ nn ih4 =>
      intro i w hi hw hm
      refine g_iload_n 3 dX7_units_4 rfl rfl ?_
      refine g_aload_n 0 dX7_units_5 rfl rfl ?_
      refine g_get (C := RX7) (T := TX7) (N := 43) 0 25 (fun _ h => List.mem_cons_of_mem _ (List.mem_append_right _ h)) (List.mem_of_getElem? (i := 1) rfl) rfl rfl (by decide) rfl rfl dX7_units_6 ?_
      refine g_icmp_ge (tgt := 36) (by unfold R32; omega) (by unfold R32; omega) dX7_units_9 rfl (fun c_1 => ?_) (fun c_1 => ?_)
      · refine g_iload_n 2 dX7_units_36 rfl rfl ?_
        exact g_iret hRet dX7_units_37 rfl ⟨(congrArg iI (by rw [hw, show i = cn by omega])), rfl⟩
      · refine g_iload_n 2 dX7_units_12 rfl rfl ?_
        refine g_aload_n 0 dX7_units_13 rfl rfl ?_
        refine g_get (C := RX7) (T := TX7) (N := 43) 0 27 (fun _ h => List.mem_cons_of_mem _ (List.mem_append_right _ h)) (List.mem_of_getElem? (i := 2) rfl) rfl rfl (by decide) rfl rfl dX7_units_14 ?_
        refine g_iload_n 3 dX7_units_17 rfl rfl ?_
        refine g_iald 1 dX7_units_18 rfl (by decide) (by omega) (by omega) ?_
        have q_2 := hbo i
        refine g_iload_n 1 dX7_units_19 rfl rfl ?_
        refine g_icmp_ne (tgt := 27) (by unfold R32; omega) (by unfold R32; omega) dX7_units_20 rfl (fun c_3 => ?_) (fun c_3 => ?_)
        · refine g_iconst dX7_units_23 ?_
          refine g_goto (tgt := 28) dX7_units_24 rfl ?_
          refine g_iadd dX7_units_28 ?_
          refine g_istore_n (lv1 := [(2, .int (iI (w + 1))), (0, .ref m0), (1, .int (iI c)), (3, .int (iI i))]) dX7_units_29 rfl (by decide) rfl ?_
          refine g_iinc (lv1 := [(3, .int (iI (i + 1))), (2, .int (iI (w + 1))), (0, .ref m0), (1, .int (iI c))]) 3 dX7_units_30 rfl (by decide) rfl ?_
          refine g_goto (tgt := 4) dX7_units_33 rfl ?_
          refine g_lv (lv1 := [(0, .ref m0), (1, .int (iI c)), (2, .int (iI (w + 1))), (3, .int (iI (i + 1)))]) [2, 3, 1, 0] rfl ?_
          exact ih4 (i + 1) (w + 1) (by omega) (by unfold ctI at *; rw [sI_s _ (by omega), ← hw]; (try dsimp only); split <;> omega) (by omega)
        · refine g_iconst dX7_units_27 ?_
          refine g_iadd dX7_units_28 ?_
          refine g_istore_n (lv1 := [(2, .int (iI (w + 0))), (0, .ref m0), (1, .int (iI c)), (3, .int (iI i))]) dX7_units_29 rfl (by decide) rfl ?_
          refine g_iinc (lv1 := [(3, .int (iI (i + 1))), (2, .int (iI (w + 0))), (0, .ref m0), (1, .int (iI c))]) 3 dX7_units_30 rfl (by decide) rfl ?_
          refine g_goto (tgt := 4) dX7_units_33 rfl ?_
          refine g_lv (lv1 := [(0, .ref m0), (1, .int (iI c)), (2, .int (iI (w + 0))), (3, .int (iI (i + 1)))]) [2, 3, 1, 0] rfl ?_
          exact ih4 (i + 1) (w + 0) (by omega) (by unfold ctI at *; rw [sI_s _ (by omega), ← hw]; (try dsimp only); split <;> omega) (by omega)
  exact L4 _ 0 0 (by omega) (by rfl) (lt_nn _)

set_option maxHeartbeats 4000000 in
set_option maxRecDepth 100000 in
theorem c_X7_casesOn (E : Ev) (m0 : Nat) (ra : Nat → Nat) (mm : Int) (nf : Int) (ti : Int) (so : Int) (ta : Int) (go : Int) (sl : Int) (lo : Int) (cn : Int) (lx : Int) (ly : Int) (pm : Int) (pi : Int) (pl : Int → Int) (c : Int) (hcn : 0 ≤ cn ∧ cn ≤ 200) (hpl : ∀ k, (pl k = -4 ∨ 0 ≤ pl k) ∧ pl k ≤ 5) (h_c : -2147483648 ≤ c ∧ c ≤ 2147483647) : MI yX7_casesOn wsX7_casesOn ({ frames := 0, cells := 0, slots := 0, locals := 0 } : Room) E [] 0 0 [.ref m0, .int (iI c)] [(m0, oo 7 (fMo ra mm nf ti so ta go sl lo cn lx ly pm pi)), (ra 30, aI E 30 pl)] (fun r u => r = iI (ctI pl 30 c) ∧ u = [(m0, oo 7 (fMo ra mm nf ti so ta go sl lo cn lx ly pm pi)), (ra 30, aI E 30 pl)]) := by
  refine MI.of (cc := cX7_casesOn) (maxL := 4) (own := RX7) (by decide) rfl rfl rfl (Nat.le_of_ble_eq_true rfl) [(0, .ref m0), (1, .int (iI c))] rfl ?_
  intro X hin2 hRet
  refine g_iconst dX7_casesOn_0 ?_
  refine g_istore_n (lv1 := [(2, .int (iI 0)), (0, .ref m0), (1, .int (iI c))]) dX7_casesOn_1 rfl (by decide) rfl ?_
  refine g_iconst dX7_casesOn_2 ?_
  refine g_istore_n (lv1 := [(3, .int (iI 0)), (2, .int (iI 0)), (0, .ref m0), (1, .int (iI c))]) dX7_casesOn_3 rfl (by decide) rfl ?_
  refine g_lv (lv1 := [(0, .ref m0), (1, .int (iI c)), (2, .int (iI 0)), (3, .int (iI 0))]) [2, 3, 1, 0] rfl ?_
  have L4 : ∀ (nn : Nat) (i : Int) (w : Int) (hi : 0 ≤ i ∧ i ≤ 30) (hw : w = ctI pl i c) (hm : 30 - i < (nn : Int)), G X ({ frames := 0, cells := 0, slots := 0, locals := 0 } : Room) cX7_casesOn 4 RX7 wsX7_casesOn E [] 0 0 [(m0, oo 7 (fMo ra mm nf ti so ta go sl lo cn lx ly pm pi)), (ra 30, aI E 30 pl)] [(0, .ref m0), (1, .int (iI c)), (2, .int (iI w)), (3, .int (iI i))] 4 [] := by
    intro nn
    induction nn with
    | zero => intro i w hi hw hm; exfalso; omega
    | succ nn ih4 =>
      intro i w hi hw hm
      refine g_iload_n 3 dX7_casesOn_4 rfl rfl ?_
      refine g_bipush dX7_casesOn_5 rfl ?_
      refine g_icmp_ge (tgt := 34) (by unfold R32; omega) (by unfold R32; omega) dX7_casesOn_7 rfl (fun c_1 => ?_) (fun c_1 => ?_)
      · refine g_iload_n 2 dX7_casesOn_34 rfl rfl ?_
        exact g_iret hRet dX7_casesOn_35 rfl ⟨(congrArg iI (by rw [hw, show i = 30 by omega])), rfl⟩
      · refine g_iload_n 2 dX7_casesOn_10 rfl rfl ?_
        refine g_aload_n 0 dX7_casesOn_11 rfl rfl ?_
        refine g_get (C := RX7) (T := TX7) (N := 43) 0 30 (fun _ h => List.mem_cons_of_mem _ (List.mem_append_right _ h)) (List.mem_of_getElem? (i := 1) rfl) rfl rfl (by decide) rfl rfl dX7_casesOn_12 ?_
        refine g_iload_n 3 dX7_casesOn_15 rfl rfl ?_
        refine g_iald 1 dX7_casesOn_16 rfl (by decide) (by omega) (by omega) ?_
        have q_2 := hpl i
        refine g_iload_n 1 dX7_casesOn_17 rfl rfl ?_
        refine g_icmp_ne (tgt := 25) (by unfold R32; omega) (by unfold R32; omega) dX7_casesOn_18 rfl (fun c_3 => ?_) (fun c_3 => ?_)
        · refine g_iconst dX7_casesOn_21 ?_
          refine g_goto (tgt := 26) dX7_casesOn_22 rfl ?_
          refine g_iadd dX7_casesOn_26 ?_
          refine g_istore_n (lv1 := [(2, .int (iI (w + 1))), (0, .ref m0), (1, .int (iI c)), (3, .int (iI i))]) dX7_casesOn_27 rfl (by decide) rfl ?_
          refine g_iinc (lv1 := [(3, .int (iI (i + 1))), (2, .int (iI (w + 1))), (0, .ref m0), (1, .int (iI c))]) 3 dX7_casesOn_28 rfl (by decide) rfl ?_
          refine g_goto (tgt := 4) dX7_casesOn_31 rfl ?_
          refine g_lv (lv1 := [(0, .ref m0), (1, .int (iI c)), (2, .int (iI (w + 1))), (3, .int (iI (i + 1)))]) [2, 3, 1, 0] rfl ?_
          exact ih4 (i + 1) (w + 1) (by omega) (by unfold ctI at *; rw [sI_s _ (by omega), ← hw]; (try dsimp only); split <;> omega) (by omega)
        · refine g_iconst dX7_casesOn_25 ?_
          refine g_iadd dX7_casesOn_26 ?_
          refine g_istore_n (lv1 := [(2, .int (iI (w + 0))), (0, .ref m0), (1, .int (iI c)), (3, .int (iI i))]) dX7_casesOn_27 rfl (by decide) rfl ?_
          refine g_iinc (lv1 := [(3, .int (iI (i + 1))), (2, .int (iI (w + 0))), (0, .ref m0), (1, .int (iI c))]) 3 dX7_casesOn_28 rfl (by decide) rfl ?_
          refine g_goto (tgt := 4) dX7_casesOn_31 rfl ?_
          refine g_lv (lv1 := [(0, .ref m0), (1, .int (iI c)), (2, .int (iI (w + 0))), (3, .int (iI (i + 1)))]) [2, 3, 1, 0] rfl ?_
          exact ih4 (i + 1) (w + 0) (by omega) (by unfold ctI at *; rw [sI_s _ (by omega), ← hw]; (try dsimp only); split <;> omega) (by omega)
  exact L4 _ 0 0 (by omega) (by rfl) (lt_nn _)

set_option maxHeartbeats 4000000 in
set_option maxRecDepth 100000 in
theorem c_X7_leastIn (E : Ev) (m0 : Nat) (ra : Nat → Nat) (mm : Int) (nf : Int) (ti : Int) (so : Int) (ta : Int) (go : Int) (sl : Int) (lo : Int) (cn : Int) (lx : Int) (ly : Int) (pm : Int) (pi : Int) (bo : Int → Int) (box : Int) (hcn : 0 ≤ cn ∧ cn ≤ 200) (hbo : ∀ k, (bo k = -4 ∨ 0 ≤ bo k) ∧ bo k ≤ 29) (h_box : -2147483648 ≤ box ∧ box ≤ 2147483647) : MI yX7_leastIn wsX7_leastIn ({ frames := 0, cells := 0, slots := 0, locals := 0 } : Room) E [] 0 0 [.ref m0, .int (iI box)] [(m0, oo 7 (fMo ra mm nf ti so ta go sl lo cn lx ly pm pi)), (ra 27, aI E 200 bo)] (fun r u => ∃ (x : Int), isL bo cn box x ∧ r = iI x ∧ u = [(m0, oo 7 (fMo ra mm nf ti so ta go sl lo cn lx ly pm pi)), (ra 27, aI E 200 bo)]) := by
  refine MI.of (cc := cX7_leastIn) (maxL := 4) (own := RX7) (by decide) rfl rfl rfl (Nat.le_of_ble_eq_true rfl) [(0, .ref m0), (1, .int (iI box))] rfl ?_
  intro X hin2 hRet
  refine g_bipush dX7_leastIn_0 rfl ?_
  refine g_istore_n (lv1 := [(2, .int (iI (-4))), (0, .ref m0), (1, .int (iI box))]) dX7_leastIn_2 rfl (by decide) rfl ?_
  refine g_aload_n 1 dX7_leastIn_3 rfl rfl ?_
  refine g_get (C := RX7) (T := TX7) (N := 43) 0 25 (fun _ h => List.mem_cons_of_mem _ (List.mem_append_right _ h)) (List.mem_of_getElem? (i := 1) rfl) rfl rfl (by decide) rfl rfl dX7_leastIn_4 ?_
  refine g_iconst dX7_leastIn_7 ?_
  refine g_isub dX7_leastIn_8 ?_
  refine g_istore_n (lv1 := [(3, .int (iI (cn - 1))), (2, .int (iI (-4))), (0, .ref m0), (1, .int (iI box))]) dX7_leastIn_9 rfl (by decide) rfl ?_
  refine g_lv (lv1 := [(0, .ref m0), (1, .int (iI box)), (2, .int (iI (-4))), (3, .int (iI (cn - 1)))]) [2, 3, 1, 0] rfl ?_
  have L10 : ∀ (nn : Nat) (i : Int) (w : Int) (hi : -1 ≤ i ∧ i ≤ cn - 1) (hw : (w = -4 ∧ ∀ k, i < k → k < cn → bo k ≠ box) ∨ (i < w ∧ w < cn ∧ bo w = box ∧ ∀ k, i < k → k < w → bo k ≠ box)) (hm : i + 1 < (nn : Int)), G X ({ frames := 0, cells := 0, slots := 0, locals := 0 } : Room) cX7_leastIn 4 RX7 wsX7_leastIn E [] 0 0 [(m0, oo 7 (fMo ra mm nf ti so ta go sl lo cn lx ly pm pi)), (ra 27, aI E 200 bo)] [(0, .ref m0), (1, .int (iI box)), (2, .int (iI w)), (3, .int (iI i))] 10 [] := by
    intro nn
    induction nn with
    | zero => intro i w hi hw hm; exfalso; omega
    | succ nn ih10 =>
      intro i w hi hw hm
      refine g_iload_n 3 dX7_leastIn_10 rfl rfl ?_
      refine g_if_lt (tgt := 36) (by unfold R32; omega) dX7_leastIn_11 rfl (fun c_1 => ?_) (fun c_1 => ?_)
      · refine g_iload_n 2 dX7_leastIn_36 rfl rfl ?_
        exact g_iret hRet dX7_leastIn_37 rfl ⟨w, (by rcases hw with ⟨h1, h2⟩ | ⟨h1, h2, h3, h4⟩; exact Or.inl ⟨h1, fun k k1 k2 => h2 k (by omega) k2⟩; exact Or.inr ⟨by omega, h2, h3, fun k k1 k2 => h4 k (by omega) k2⟩), rfl, rfl⟩
      · refine g_aload_n 0 dX7_leastIn_14 rfl rfl ?_
        refine g_get (C := RX7) (T := TX7) (N := 43) 0 27 (fun _ h => List.mem_cons_of_mem _ (List.mem_append_right _ h)) (List.mem_of_getElem? (i := 2) rfl) rfl rfl (by decide) rfl rfl dX7_leastIn_15 ?_
        refine g_iload_n 3 dX7_leastIn_18 rfl rfl ?_
        refine g_iald 1 dX7_leastIn_19 rfl (by decide) (by omega) (by omega) ?_
        have q_2 := hbo i
        refine g_iload_n 1 dX7_leastIn_20 rfl rfl ?_
        refine g_icmp_ne (tgt := 28) (by unfold R32; omega) (by unfold R32; omega) dX7_leastIn_21 rfl (fun hq => ?_) (fun hq => ?_)
        · refine g_iload_n 3 dX7_leastIn_24 rfl rfl ?_
          refine g_goto (tgt := 29) dX7_leastIn_25 rfl ?_
          refine g_istore_n (lv1 := [(2, .int (iI i)), (0, .ref m0), (1, .int (iI box)), (3, .int (iI i))]) dX7_leastIn_29 rfl (by decide) rfl ?_
          refine g_iinc (lv1 := [(3, .int (iI (i + (-1)))), (2, .int (iI i)), (0, .ref m0), (1, .int (iI box))]) 3 dX7_leastIn_30 rfl (by decide) rfl ?_
          refine g_goto (tgt := 10) dX7_leastIn_33 rfl ?_
          refine g_lv (lv1 := [(0, .ref m0), (1, .int (iI box)), (2, .int (iI i)), (3, .int (iI (i + (-1))))]) [2, 3, 1, 0] rfl ?_
          exact ih10 (i + (-1)) i (by omega) (by right; refine ⟨by omega, by omega, hq, fun k k1 k2 => ?_⟩; omega) (by omega)
        · refine g_iload_n 2 dX7_leastIn_28 rfl rfl ?_
          refine g_istore_n (lv1 := [(2, .int (iI w)), (0, .ref m0), (1, .int (iI box)), (3, .int (iI i))]) dX7_leastIn_29 rfl (by decide) rfl ?_
          refine g_iinc (lv1 := [(3, .int (iI (i + (-1)))), (2, .int (iI w)), (0, .ref m0), (1, .int (iI box))]) 3 dX7_leastIn_30 rfl (by decide) rfl ?_
          refine g_goto (tgt := 10) dX7_leastIn_33 rfl ?_
          refine g_lv (lv1 := [(0, .ref m0), (1, .int (iI box)), (2, .int (iI w)), (3, .int (iI (i + (-1))))]) [2, 3, 1, 0] rfl ?_
          exact ih10 (i + (-1)) w (by omega) (by exact isL_s hw hq) (by omega)
  exact L10 _ (cn - 1) (-4) (by omega) (by left; refine ⟨rfl, fun k k1 k2 => ?_⟩; omega) (lt_nn _)

set_option maxHeartbeats 4000000 in
set_option maxRecDepth 100000 in
theorem c_X7_greatestIn (E : Ev) (m0 : Nat) (ra : Nat → Nat) (mm : Int) (nf : Int) (ti : Int) (so : Int) (ta : Int) (go : Int) (sl : Int) (lo : Int) (cn : Int) (lx : Int) (ly : Int) (pm : Int) (pi : Int) (bo : Int → Int) (box : Int) (hcn : 0 ≤ cn ∧ cn ≤ 200) (hbo : ∀ k, (bo k = -4 ∨ 0 ≤ bo k) ∧ bo k ≤ 29) (h_box : -2147483648 ≤ box ∧ box ≤ 2147483647) : MI yX7_greatestIn wsX7_greatestIn ({ frames := 0, cells := 0, slots := 0, locals := 0 } : Room) E [] 0 0 [.ref m0, .int (iI box)] [(m0, oo 7 (fMo ra mm nf ti so ta go sl lo cn lx ly pm pi)), (ra 27, aI E 200 bo)] (fun r u => ∃ (x : Int), isG bo cn box x ∧ r = iI x ∧ u = [(m0, oo 7 (fMo ra mm nf ti so ta go sl lo cn lx ly pm pi)), (ra 27, aI E 200 bo)]) := by
  refine MI.of (cc := cX7_greatestIn) (maxL := 4) (own := RX7) (by decide) rfl rfl rfl (Nat.le_of_ble_eq_true rfl) [(0, .ref m0), (1, .int (iI box))] rfl ?_
  intro X hin2 hRet
  refine g_bipush dX7_greatestIn_0 rfl ?_
  refine g_istore_n (lv1 := [(2, .int (iI (-4))), (0, .ref m0), (1, .int (iI box))]) dX7_greatestIn_2 rfl (by decide) rfl ?_
  refine g_iconst dX7_greatestIn_3 ?_
  refine g_istore_n (lv1 := [(3, .int (iI 0)), (2, .int (iI (-4))), (0, .ref m0), (1, .int (iI box))]) dX7_greatestIn_4 rfl (by decide) rfl ?_
  refine g_lv (lv1 := [(0, .ref m0), (1, .int (iI box)), (2, .int (iI (-4))), (3, .int (iI 0))]) [2, 3, 1, 0] rfl ?_
  have L5 : ∀ (nn : Nat) (i : Int) (w : Int) (hi : 0 ≤ i ∧ i ≤ cn) (hw : (w = -4 ∧ ∀ k, 0 ≤ k → k < i → bo k ≠ box) ∨ (0 ≤ w ∧ w < i ∧ bo w = box ∧ ∀ k, w < k → k < i → bo k ≠ box)) (hm : cn - i < (nn : Int)), G X ({ frames := 0, cells := 0, slots := 0, locals := 0 } : Room) cX7_greatestIn 4 RX7 wsX7_greatestIn E [] 0 0 [(m0, oo 7 (fMo ra mm nf ti so ta go sl lo cn lx ly pm pi)), (ra 27, aI E 200 bo)] [(0, .ref m0), (1, .int (iI box)), (2, .int (iI w)), (3, .int (iI i))] 5 [] := by
    intro nn
    induction nn with
    | zero => intro i w hi hw hm; exfalso; omega
    | succ nn ih5 =>
      intro i w hi hw hm
      refine g_iload_n 3 dX7_greatestIn_5 rfl rfl ?_
      refine g_aload_n 0 dX7_greatestIn_6 rfl rfl ?_
      refine g_get (C := RX7) (T := TX7) (N := 43) 0 25 (fun _ h => List.mem_cons_of_mem _ (List.mem_append_right _ h)) (List.mem_of_getElem? (i := 1) rfl) rfl rfl (by decide) rfl rfl dX7_greatestIn_7 ?_
      refine g_icmp_ge (tgt := 35) (by unfold R32; omega) (by unfold R32; omega) dX7_greatestIn_10 rfl (fun c_1 => ?_) (fun c_1 => ?_)
      · refine g_iload_n 2 dX7_greatestIn_35 rfl rfl ?_
        exact g_iret hRet dX7_greatestIn_36 rfl ⟨w, (by have ei : i = cn := (by omega); subst ei; rcases hw with ⟨h1, h2⟩ | ⟨h1, h2, h3, h4⟩; exact Or.inl ⟨h1, h2⟩; exact Or.inr ⟨h1, h2, h3, h4⟩), rfl, rfl⟩
      · refine g_aload_n 0 dX7_greatestIn_13 rfl rfl ?_
        refine g_get (C := RX7) (T := TX7) (N := 43) 0 27 (fun _ h => List.mem_cons_of_mem _ (List.mem_append_right _ h)) (List.mem_of_getElem? (i := 2) rfl) rfl rfl (by decide) rfl rfl dX7_greatestIn_14 ?_
        refine g_iload_n 3 dX7_greatestIn_17 rfl rfl ?_
        refine g_iald 1 dX7_greatestIn_18 rfl (by decide) (by omega) (by omega) ?_
        have q_2 := hbo i
        refine g_iload_n 1 dX7_greatestIn_19 rfl rfl ?_
        refine g_icmp_ne (tgt := 27) (by unfold R32; omega) (by unfold R32; omega) dX7_greatestIn_20 rfl (fun hq => ?_) (fun hq => ?_)
        · refine g_iload_n 3 dX7_greatestIn_23 rfl rfl ?_
          refine g_goto (tgt := 28) dX7_greatestIn_24 rfl ?_
          refine g_istore_n (lv1 := [(2, .int (iI i)), (0, .ref m0), (1, .int (iI box)), (3, .int (iI i))]) dX7_greatestIn_28 rfl (by decide) rfl ?_
          refine g_iinc (lv1 := [(3, .int (iI (i + 1))), (2, .int (iI i)), (0, .ref m0), (1, .int (iI box))]) 3 dX7_greatestIn_29 rfl (by decide) rfl ?_
          refine g_goto (tgt := 5) dX7_greatestIn_32 rfl ?_
          refine g_lv (lv1 := [(0, .ref m0), (1, .int (iI box)), (2, .int (iI i)), (3, .int (iI (i + 1)))]) [2, 3, 1, 0] rfl ?_
          exact ih5 (i + 1) i (by omega) (by right; refine ⟨by omega, by omega, hq, fun k k1 k2 => ?_⟩; omega) (by omega)
        · refine g_iload_n 2 dX7_greatestIn_27 rfl rfl ?_
          refine g_istore_n (lv1 := [(2, .int (iI w)), (0, .ref m0), (1, .int (iI box)), (3, .int (iI i))]) dX7_greatestIn_28 rfl (by decide) rfl ?_
          refine g_iinc (lv1 := [(3, .int (iI (i + 1))), (2, .int (iI w)), (0, .ref m0), (1, .int (iI box))]) 3 dX7_greatestIn_29 rfl (by decide) rfl ?_
          refine g_goto (tgt := 5) dX7_greatestIn_32 rfl ?_
          refine g_lv (lv1 := [(0, .ref m0), (1, .int (iI box)), (2, .int (iI w)), (3, .int (iI (i + 1)))]) [2, 3, 1, 0] rfl ?_
          exact ih5 (i + 1) w (by omega) (by rcases hw with ⟨h1, h2⟩ | ⟨h1, h2, h3, h4⟩; (left; refine ⟨h1, fun k k1 k2 => ?_⟩; by_cases e : k = i; (rw [e]; exact hq); exact h2 k k1 (by omega)); (right; refine ⟨h1, by omega, h3, fun k k1 k2 => ?_⟩; by_cases e : k = i; (rw [e]; exact hq); exact h4 k k1 (by omega))) (by omega)
  exact L5 _ 0 (-4) (by omega) (by left; refine ⟨rfl, fun k k1 k2 => ?_⟩; omega) (lt_nn _)

set_option maxHeartbeats 4000000 in
set_option maxRecDepth 100000 in
theorem c_X7_pack (E : Ev) (m0 : Nat) (ra : Nat → Nat) (mm : Int) (nf : Int) (ti : Int) (so : Int) (ta : Int) (go : Int) (sl : Int) (lo : Int) (cn : Int) (lx : Int) (ly : Int) (pm : Int) (pi : Int) (bo : Int → Int) (cl : Int → Int) (ru : Int → Int) (un : Int → Int) (code : Int) (box : Int) (hcn : 0 ≤ cn ∧ cn ≤ 200) (hbo : ∀ k, (bo k = -4 ∨ 0 ≤ bo k) ∧ bo k ≤ 29) (hcl : ∀ k, 0 ≤ cl k ∧ cl k ≤ 1) (hru : (1 ≤ ru 0 ∧ ru 0 ≤ 12) ∧ (1 ≤ ru 1 ∧ ru 1 ≤ 20) ∧ (0 ≤ ru 2 ∧ ru 2 ≤ 10000) ∧ (0 ≤ ru 3 ∧ ru 3 ≤ 10000) ∧ (0 ≤ ru 4 ∧ ru 4 ≤ 1000) ∧ (0 ≤ ru 5 ∧ ru 5 ≤ 500)) (h_code : -2147483648 ≤ code ∧ code ≤ 2147483647) (h_box : -2147483648 ≤ box ∧ box ≤ 2147483647) (hun : ∀ c, 0 ≤ c → c < 30 → un c = ctI bo cn c) : MI yX7_pack wsX7_pack ({ frames := 2, cells := 0, slots := 0, locals := 43 } : Room) E [] 0 0 [.ref m0, .int (iI code), .int (iI box)] [(m0, oo 7 (fMo ra mm nf ti so ta go sl lo cn lx ly pm pi)), (ra 27, aI E 200 bo), (ra 29, aZ E 30 cl), (ra 32, aI E 6 ru)] (fun r u => ∃ (x : Int), ∃ (bo' : Int → Int), ∃ (un' : Int → Int), sp_pack cn bo cl un ru code box x bo' un' ∧ r = iI x ∧ u = [(m0, oo 7 (fMo ra mm nf ti so ta go sl lo cn lx ly pm pi)), (ra 27, aI E 200 bo'), (ra 29, aZ E 30 cl), (ra 32, aI E 6 ru)]) := by
  refine MI.of (cc := cX7_pack) (maxL := 3) (own := RX7) (by decide) rfl rfl rfl (Nat.le_of_ble_eq_true rfl) [(0, .ref m0), (1, .int (iI code)), (2, .int (iI box))] rfl ?_
  intro X hin2 hRet
  refine g_iload_n 1 dX7_pack_0 rfl rfl ?_
  refine g_iconst dX7_pack_1 ?_
  refine g_sipush dX7_pack_2 rfl ?_
  refine g_callS_i (n := 3) (As := [.int (iI code), .int (iI 0), .int (iI 199)]) (wr := [(m0, oo 7 (fMo ra mm nf ti so ta go sl lo cn lx ly pm pi)), (ra 27, aI E 200 bo), (ra 29, aZ E 30 cl), (ra 32, aI E 6 ru)]) [] (c_X7_in E code 0 199 (by omega) (by omega) (by omega)) [] [0, 1, 2, 3] gX7_pack_X7_in rfl ⟨rfl, by decide +kernel⟩ ⟨by decide, by decide⟩ rfl rfl rfl rfl rfl (by decide) rfl (by decide) (by decide) (fun _ h => absurd h List.not_mem_nil) dX7_pack_5 rfl (Nat.le_of_ble_eq_true rfl) ⟨by decide, by decide⟩ (fun r u p_1 => ?_)
  obtain ⟨rfl, rfl⟩ := p_1
  refine g_perm (ws1 := [(m0, oo 7 (fMo ra mm nf ti so ta go sl lo cn lx ly pm pi)), (ra 27, aI E 200 bo), (ra 29, aZ E 30 cl), (ra 32, aI E 6 ru)]) [0, 1, 2, 3] rfl (by decide) rfl ?_
  refine g_if_eq_b (tgt := 18) dX7_pack_8 rfl (fun c_2 => ?_) (fun c_2 => ?_)
  · refine g_iload_n 2 dX7_pack_11 rfl rfl ?_
    refine g_callS_i (n := 1) (As := [.int (iI box)]) (wr := [(m0, oo 7 (fMo ra mm nf ti so ta go sl lo cn lx ly pm pi)), (ra 27, aI E 200 bo), (ra 29, aZ E 30 cl), (ra 32, aI E 6 ru)]) [] (c_X7_isCase E box (by omega)) [] [0, 1, 2, 3] gX7_pack_X7_isCase rfl ⟨rfl, by decide +kernel⟩ ⟨by decide, by decide⟩ rfl rfl rfl rfl rfl (by decide) rfl (by decide) (by decide) (fun _ h => absurd h List.not_mem_nil) dX7_pack_12 rfl (Nat.le_of_ble_eq_true rfl) ⟨by decide, by decide⟩ (fun r u p_3 => ?_)
    obtain ⟨rfl, rfl⟩ := p_3
    refine g_perm (ws1 := [(m0, oo 7 (fMo ra mm nf ti so ta go sl lo cn lx ly pm pi)), (ra 27, aI E 200 bo), (ra 29, aZ E 30 cl), (ra 32, aI E 6 ru)]) [0, 1, 2, 3] rfl (by decide) rfl ?_
    refine g_if_ne_b (tgt := 20) dX7_pack_15 rfl (fun c_4 => ?_) (fun c_4 => ?_)
    · refine g_aload_n 0 dX7_pack_20 rfl rfl ?_
      refine g_iload_n 1 dX7_pack_21 rfl rfl ?_
      refine g_callV_i (n := 1) (As := [.int (iI code)]) (wr := [(ra 27, aI E 200 bo), (ra 29, aZ E 30 cl), (ra 32, aI E 6 ru)]) (C := RX7) [] (c_X7_isCode E m0 ra mm nf ti so ta go sl lo cn lx ly pm pi code (by omega) (by omega)) [0] [1, 2, 3] 0 rfl rfl gX7_pack_X7_isCode rfl ⟨rfl, by decide +kernel⟩ ⟨by decide, by decide⟩ rfl rfl rfl rfl rfl (by decide) rfl (by decide) (by decide) (fun _ h => absurd h List.not_mem_nil) dX7_pack_22 rfl (Nat.le_of_ble_eq_true rfl) ⟨by decide, by decide⟩ (fun r u p_5 => ?_)
      obtain ⟨rfl, rfl⟩ := p_5
      refine g_perm (ws1 := [(m0, oo 7 (fMo ra mm nf ti so ta go sl lo cn lx ly pm pi)), (ra 27, aI E 200 bo), (ra 29, aZ E 30 cl), (ra 32, aI E 6 ru)]) [3, 0, 1, 2] rfl (by decide) rfl ?_
      refine g_if_eq_b (tgt := 46) dX7_pack_25 rfl (fun c_6 => ?_) (fun c_6 => ?_)
      · refine g_aload_n 0 dX7_pack_28 rfl rfl ?_
        refine g_get (C := RX7) (T := TX7) (N := 43) 0 27 (fun _ h => List.mem_cons_of_mem _ (List.mem_append_right _ h)) (List.mem_of_getElem? (i := 1) rfl) rfl rfl (by decide) rfl rfl dX7_pack_29 ?_
        refine g_iload_n 1 dX7_pack_32 rfl rfl ?_
        refine g_iald 1 dX7_pack_33 rfl (by decide) (by omega) (by omega) ?_
        have q_7 := hbo code
        refine g_if_ge (tgt := 46) (by unfold R32; omega) dX7_pack_34 rfl (fun c_8 => ?_) (fun c_8 => ?_)
        · refine g_bipush dX7_pack_46 rfl ?_
          exact g_iret hRet dX7_pack_48 rfl ⟨(-2), bo, un, (by unfold sp_pack sPack; rw [if_neg (by omega), if_pos (by omega)]; exact ⟨rfl, rfl, rfl⟩), rfl, rfl⟩
        · refine g_aload_n 0 dX7_pack_37 rfl rfl ?_
          refine g_get (C := RX7) (T := TX7) (N := 43) 0 29 (fun _ h => List.mem_cons_of_mem _ (List.mem_append_right _ h)) (List.mem_of_getElem? (i := 2) rfl) rfl rfl (by decide) rfl rfl dX7_pack_38 ?_
          refine g_iload_n 2 dX7_pack_41 rfl rfl ?_
          refine g_zald 2 dX7_pack_42 rfl (by decide) (by omega) (by omega) ?_
          have q_9 := hcl box
          refine g_if_eq (tgt := 49) (by unfold R32; omega) dX7_pack_43 rfl (fun c_10 => ?_) (fun c_10 => ?_)
          · refine g_aload_n 0 dX7_pack_49 rfl rfl ?_
            refine g_iload_n 2 dX7_pack_50 rfl rfl ?_
            refine g_callV_i (n := 1) (As := [.int (iI box)]) (wr := [(ra 29, aZ E 30 cl), (ra 32, aI E 6 ru)]) (C := RX7) [] (c_X7_units E m0 ra mm nf ti so ta go sl lo cn lx ly pm pi bo box (by omega) (by omega) (by omega)) [0, 1] [2, 3] 0 rfl rfl gX7_pack_X7_units rfl ⟨rfl, by decide +kernel⟩ ⟨by decide, by decide⟩ rfl rfl rfl rfl rfl (by decide) rfl (by decide) (by decide) (fun _ h => absurd h List.not_mem_nil) dX7_pack_51 rfl (Nat.le_of_ble_eq_true rfl) ⟨by decide, by decide⟩ (fun r u p_11 => ?_)
            obtain ⟨rfl, rfl⟩ := p_11
            refine g_perm (ws1 := [(m0, oo 7 (fMo ra mm nf ti so ta go sl lo cn lx ly pm pi)), (ra 27, aI E 200 bo), (ra 29, aZ E 30 cl), (ra 32, aI E 6 ru)]) [2, 3, 0, 1] rfl (by decide) rfl ?_
            have hu := hun box (by omega) (by omega)
            have hub := ctI_b bo box hcn.1
            refine g_aload_n 0 dX7_pack_54 rfl rfl ?_
            refine g_get (C := RX7) (T := TX7) (N := 43) 0 32 (fun _ h => List.mem_cons_of_mem _ (List.mem_append_right _ h)) (List.mem_of_getElem? (i := 3) rfl) rfl rfl (by decide) rfl rfl dX7_pack_55 ?_
            refine g_iconst dX7_pack_58 ?_
            refine g_iald 3 dX7_pack_59 rfl (by decide) (by omega) (by omega) ?_
            refine g_icmp_lt (tgt := 66) (by unfold R32; omega) (by unfold R32; omega) dX7_pack_60 rfl (fun c_12 => ?_) (fun c_12 => ?_)
            · refine g_aload_n 0 dX7_pack_66 rfl rfl ?_
              refine g_get (C := RX7) (T := TX7) (N := 43) 0 27 (fun _ h => List.mem_cons_of_mem _ (List.mem_append_right _ h)) (List.mem_of_getElem? (i := 1) rfl) rfl rfl (by decide) rfl rfl dX7_pack_67 ?_
              refine g_iload_n 1 dX7_pack_70 rfl rfl ?_
              refine g_iload_n 2 dX7_pack_71 rfl rfl ?_
              refine g_iast (ws1 := [(m0, oo 7 (fMo ra mm nf ti so ta go sl lo cn lx ly pm pi)), (ra 27, aI E 200 (up bo code box)), (ra 29, aZ E 30 cl), (ra 32, aI E 6 ru)]) 1 dX7_pack_72 rfl rfl (by decide) (by omega) (by omega) ?_
              refine g_aload_n 0 dX7_pack_73 rfl rfl ?_
              refine g_iload_n 2 dX7_pack_74 rfl rfl ?_
              refine g_callV_i (n := 1) (As := [.int (iI box)]) (wr := [(ra 29, aZ E 30 cl), (ra 32, aI E 6 ru)]) (C := RX7) [] (c_X7_units E m0 ra mm nf ti so ta go sl lo cn lx ly pm pi (up bo code box) box (by omega) (by intro k; unfold up; split <;> have q9 := hbo k <;> omega) (by omega)) [0, 1] [2, 3] 0 rfl rfl gX7_pack_X7_units rfl ⟨rfl, by decide +kernel⟩ ⟨by decide, by decide⟩ rfl rfl rfl rfl rfl (by decide) rfl (by decide) (by decide) (fun _ h => absurd h List.not_mem_nil) dX7_pack_75 rfl (Nat.le_of_ble_eq_true rfl) ⟨by decide, by decide⟩ (fun r u p_13 => ?_)
              obtain ⟨rfl, rfl⟩ := p_13
              refine g_perm (ws1 := [(m0, oo 7 (fMo ra mm nf ti so ta go sl lo cn lx ly pm pi)), (ra 27, aI E 200 (up bo code box)), (ra 29, aZ E 30 cl), (ra 32, aI E 6 ru)]) [2, 3, 0, 1] rfl (by decide) rfl ?_
              have hv := ctI_up (f := bo) box box (show 0 ≤ code by omega) (show code < cn by omega)
              rw [if_pos rfl, if_neg (by omega)] at hv
              exact g_iret hRet dX7_pack_78 rfl ⟨(ctI (up bo code box) cn box), (up bo code box), (up un box (un box + 1)), (by unfold sp_pack sPack; rw [if_neg (by omega), if_neg (by omega), if_neg (by omega)]; exact ⟨by omega, rfl, rfl⟩), rfl, rfl⟩
            · refine g_bipush dX7_pack_63 rfl ?_
              exact g_iret hRet dX7_pack_65 rfl ⟨(-3), bo, un, (by unfold sp_pack sPack; rw [if_neg (by omega), if_neg (by omega), if_pos (by omega)]; exact ⟨rfl, rfl, rfl⟩), rfl, rfl⟩
          · refine g_bipush dX7_pack_46 rfl ?_
            exact g_iret hRet dX7_pack_48 rfl ⟨(-2), bo, un, (by unfold sp_pack sPack; rw [if_neg (by omega), if_pos (by omega)]; exact ⟨rfl, rfl, rfl⟩), rfl, rfl⟩
      · refine g_bipush dX7_pack_46 rfl ?_
        exact g_iret hRet dX7_pack_48 rfl ⟨(-2), bo, un, (by unfold sp_pack sPack; rw [if_neg (by omega), if_pos (by omega)]; exact ⟨rfl, rfl, rfl⟩), rfl, rfl⟩
    · refine g_iconst dX7_pack_18 ?_
      exact g_iret hRet dX7_pack_19 rfl ⟨(-1), bo, un, (by unfold sp_pack; rw [if_pos (by omega)]; exact ⟨rfl, rfl, rfl⟩), rfl, rfl⟩
  · refine g_iconst dX7_pack_18 ?_
    exact g_iret hRet dX7_pack_19 rfl ⟨(-1), bo, un, (by unfold sp_pack; rw [if_pos (by omega)]; exact ⟨rfl, rfl, rfl⟩), rfl, rfl⟩

set_option maxHeartbeats 4000000 in
set_option maxRecDepth 100000 in
theorem c_X7_close (E : Ev) (m0 : Nat) (ra : Nat → Nat) (mm : Int) (nf : Int) (ti : Int) (so : Int) (ta : Int) (go : Int) (sl : Int) (lo : Int) (cn : Int) (lx : Int) (ly : Int) (pm : Int) (pi : Int) (bo : Int → Int) (cl : Int → Int) (ru : Int → Int) (un : Int → Int) (box : Int) (hcn : 0 ≤ cn ∧ cn ≤ 200) (hbo : ∀ k, (bo k = -4 ∨ 0 ≤ bo k) ∧ bo k ≤ 29) (hcl : ∀ k, 0 ≤ cl k ∧ cl k ≤ 1) (hru : (1 ≤ ru 0 ∧ ru 0 ≤ 12) ∧ (1 ≤ ru 1 ∧ ru 1 ≤ 20) ∧ (0 ≤ ru 2 ∧ ru 2 ≤ 10000) ∧ (0 ≤ ru 3 ∧ ru 3 ≤ 10000) ∧ (0 ≤ ru 4 ∧ ru 4 ≤ 1000) ∧ (0 ≤ ru 5 ∧ ru 5 ≤ 500)) (h_box : -2147483648 ≤ box ∧ box ≤ 2147483647) (hun : ∀ c, 0 ≤ c → c < 30 → un c = ctI bo cn c) : MI yX7_close wsX7_close ({ frames := 2, cells := 0, slots := 0, locals := 42 } : Room) E [] 0 0 [.ref m0, .int (iI box)] [(m0, oo 7 (fMo ra mm nf ti so ta go sl lo cn lx ly pm pi)), (ra 27, aI E 200 bo), (ra 29, aZ E 30 cl), (ra 32, aI E 6 ru)] (fun r u => ∃ (x : Int), ∃ (cl' : Int → Int), sp_close cl un ru box x cl' ∧ r = iI x ∧ u = [(m0, oo 7 (fMo ra mm nf ti so ta go sl lo cn lx ly pm pi)), (ra 27, aI E 200 bo), (ra 29, aZ E 30 cl'), (ra 32, aI E 6 ru)]) := by
  refine MI.of (cc := cX7_close) (maxL := 2) (own := RX7) (by decide) rfl rfl rfl (Nat.le_of_ble_eq_true rfl) [(0, .ref m0), (1, .int (iI box))] rfl ?_
  intro X hin2 hRet
  refine g_iload_n 1 dX7_close_0 rfl rfl ?_
  refine g_callS_i (n := 1) (As := [.int (iI box)]) (wr := [(m0, oo 7 (fMo ra mm nf ti so ta go sl lo cn lx ly pm pi)), (ra 27, aI E 200 bo), (ra 29, aZ E 30 cl), (ra 32, aI E 6 ru)]) [] (c_X7_isCase E box (by omega)) [] [0, 1, 2, 3] gX7_close_X7_isCase rfl ⟨rfl, by decide +kernel⟩ ⟨by decide, by decide⟩ rfl rfl rfl rfl rfl (by decide) rfl (by decide) (by decide) (fun _ h => absurd h List.not_mem_nil) dX7_close_1 rfl (Nat.le_of_ble_eq_true rfl) ⟨by decide, by decide⟩ (fun r u p_1 => ?_)
  obtain ⟨rfl, rfl⟩ := p_1
  refine g_perm (ws1 := [(m0, oo 7 (fMo ra mm nf ti so ta go sl lo cn lx ly pm pi)), (ra 27, aI E 200 bo), (ra 29, aZ E 30 cl), (ra 32, aI E 6 ru)]) [0, 1, 2, 3] rfl (by decide) rfl ?_
  refine g_if_ne_b (tgt := 9) dX7_close_4 rfl (fun c_2 => ?_) (fun c_2 => ?_)
  · refine g_aload_n 0 dX7_close_9 rfl rfl ?_
    refine g_get (C := RX7) (T := TX7) (N := 43) 0 29 (fun _ h => List.mem_cons_of_mem _ (List.mem_append_right _ h)) (List.mem_of_getElem? (i := 1) rfl) rfl rfl (by decide) rfl rfl dX7_close_10 ?_
    refine g_iload_n 1 dX7_close_13 rfl rfl ?_
    refine g_zald 2 dX7_close_14 rfl (by decide) (by omega) (by omega) ?_
    have q_3 := hcl box
    refine g_if_ne (tgt := 32) (by unfold R32; omega) dX7_close_15 rfl (fun c_4 => ?_) (fun c_4 => ?_)
    · refine g_aload_n 0 dX7_close_18 rfl rfl ?_
      refine g_iload_n 1 dX7_close_19 rfl rfl ?_
      refine g_callV_i (n := 1) (As := [.int (iI box)]) (wr := [(ra 29, aZ E 30 cl), (ra 32, aI E 6 ru)]) (C := RX7) [] (c_X7_units E m0 ra mm nf ti so ta go sl lo cn lx ly pm pi bo box (by omega) (by omega) (by omega)) [0, 1] [2, 3] 0 rfl rfl gX7_close_X7_units rfl ⟨rfl, by decide +kernel⟩ ⟨by decide, by decide⟩ rfl rfl rfl rfl rfl (by decide) rfl (by decide) (by decide) (fun _ h => absurd h List.not_mem_nil) dX7_close_20 rfl (Nat.le_of_ble_eq_true rfl) ⟨by decide, by decide⟩ (fun r u p_5 => ?_)
      obtain ⟨rfl, rfl⟩ := p_5
      refine g_perm (ws1 := [(m0, oo 7 (fMo ra mm nf ti so ta go sl lo cn lx ly pm pi)), (ra 27, aI E 200 bo), (ra 29, aZ E 30 cl), (ra 32, aI E 6 ru)]) [2, 3, 0, 1] rfl (by decide) rfl ?_
      have hu := hun box (by omega) (by omega)
      have hub := ctI_b bo box hcn.1
      refine g_aload_n 0 dX7_close_23 rfl rfl ?_
      refine g_get (C := RX7) (T := TX7) (N := 43) 0 32 (fun _ h => List.mem_cons_of_mem _ (List.mem_append_right _ h)) (List.mem_of_getElem? (i := 2) rfl) rfl rfl (by decide) rfl rfl dX7_close_24 ?_
      refine g_iconst dX7_close_27 ?_
      refine g_iald 3 dX7_close_28 rfl (by decide) (by omega) (by omega) ?_
      refine g_icmp_eq (tgt := 35) (by unfold R32; omega) (by unfold R32; omega) dX7_close_29 rfl (fun c_6 => ?_) (fun c_6 => ?_)
      · refine g_aload_n 0 dX7_close_35 rfl rfl ?_
        refine g_get (C := RX7) (T := TX7) (N := 43) 0 29 (fun _ h => List.mem_cons_of_mem _ (List.mem_append_right _ h)) (List.mem_of_getElem? (i := 1) rfl) rfl rfl (by decide) rfl rfl dX7_close_36 ?_
        refine g_iload_n 1 dX7_close_39 rfl rfl ?_
        refine g_iconst dX7_close_40 ?_
        refine g_zast (ws1 := [(m0, oo 7 (fMo ra mm nf ti so ta go sl lo cn lx ly pm pi)), (ra 27, aI E 200 bo), (ra 29, aZ E 30 (up cl box 1)), (ra 32, aI E 6 ru)]) 2 dX7_close_41 rfl (by omega) rfl (by decide) (by omega) (by omega) ?_
        refine g_iconst dX7_close_42 ?_
        exact g_iret hRet dX7_close_43 rfl ⟨0, (up cl box 1), (by unfold sp_close sClose; rw [if_neg (by omega), if_neg (by omega)]; exact ⟨rfl, rfl⟩), rfl, rfl⟩
      · refine g_bipush dX7_close_32 rfl ?_
        exact g_iret hRet dX7_close_34 rfl ⟨(-2), cl, (by unfold sp_close sClose; rw [if_neg (by omega), if_pos (by omega)]; exact ⟨rfl, rfl⟩), rfl, rfl⟩
    · refine g_bipush dX7_close_32 rfl ?_
      exact g_iret hRet dX7_close_34 rfl ⟨(-2), cl, (by unfold sp_close sClose; rw [if_neg (by omega), if_pos (by omega)]; exact ⟨rfl, rfl⟩), rfl, rfl⟩
  · refine g_iconst dX7_close_7 ?_
    exact g_iret hRet dX7_close_8 rfl ⟨(-1), cl, (by unfold sp_close; rw [if_pos (by omega)]; exact ⟨rfl, rfl⟩), rfl, rfl⟩

set_option maxHeartbeats 4000000 in
set_option maxRecDepth 100000 in
theorem c_X7_stack (E : Ev) (m0 : Nat) (ra : Nat → Nat) (mm : Int) (nf : Int) (ti : Int) (so : Int) (ta : Int) (go : Int) (sl : Int) (lo : Int) (cn : Int) (lx : Int) (ly : Int) (pm : Int) (pi : Int) (cl : Int → Int) (pl : Int → Int) (se : Int → Int) (ru : Int → Int) (on : Int → Int) (box : Int) (pal : Int) (hcn : 0 ≤ cn ∧ cn ≤ 200) (hcl : ∀ k, 0 ≤ cl k ∧ cl k ≤ 1) (hpl : ∀ k, (pl k = -4 ∨ 0 ≤ pl k) ∧ pl k ≤ 5) (hse : ∀ k, 0 ≤ se k ∧ se k ≤ 1) (hru : (1 ≤ ru 0 ∧ ru 0 ≤ 12) ∧ (1 ≤ ru 1 ∧ ru 1 ≤ 20) ∧ (0 ≤ ru 2 ∧ ru 2 ≤ 10000) ∧ (0 ≤ ru 3 ∧ ru 3 ≤ 10000) ∧ (0 ≤ ru 4 ∧ ru 4 ≤ 1000) ∧ (0 ≤ ru 5 ∧ ru 5 ≤ 500)) (h_box : -2147483648 ≤ box ∧ box ≤ 2147483647) (h_pal : -2147483648 ≤ pal ∧ pal ≤ 2147483647) (hon : ∀ c, 0 ≤ c → c < 6 → on c = ctI pl 30 c) : MI yX7_stack wsX7_stack ({ frames := 2, cells := 0, slots := 0, locals := 42 } : Room) E [] 0 0 [.ref m0, .int (iI box), .int (iI pal)] [(m0, oo 7 (fMo ra mm nf ti so ta go sl lo cn lx ly pm pi)), (ra 29, aZ E 30 cl), (ra 30, aI E 30 pl), (ra 31, aZ E 6 se), (ra 32, aI E 6 ru)] (fun r u => ∃ (x : Int), ∃ (pl' : Int → Int), ∃ (on' : Int → Int), sp_stack cl pl se on ru box pal x pl' on' ∧ r = iI x ∧ u = [(m0, oo 7 (fMo ra mm nf ti so ta go sl lo cn lx ly pm pi)), (ra 29, aZ E 30 cl), (ra 30, aI E 30 pl'), (ra 31, aZ E 6 se), (ra 32, aI E 6 ru)]) := by
  refine MI.of (cc := cX7_stack) (maxL := 3) (own := RX7) (by decide) rfl rfl rfl (Nat.le_of_ble_eq_true rfl) [(0, .ref m0), (1, .int (iI box)), (2, .int (iI pal))] rfl ?_
  intro X hin2 hRet
  refine g_iload_n 1 dX7_stack_0 rfl rfl ?_
  refine g_callS_i (n := 1) (As := [.int (iI box)]) (wr := [(m0, oo 7 (fMo ra mm nf ti so ta go sl lo cn lx ly pm pi)), (ra 29, aZ E 30 cl), (ra 30, aI E 30 pl), (ra 31, aZ E 6 se), (ra 32, aI E 6 ru)]) [] (c_X7_isCase E box (by omega)) [] [0, 1, 2, 3, 4] gX7_stack_X7_isCase rfl ⟨rfl, by decide +kernel⟩ ⟨by decide, by decide⟩ rfl rfl rfl rfl rfl (by decide) rfl (by decide) (by decide) (fun _ h => absurd h List.not_mem_nil) dX7_stack_1 rfl (Nat.le_of_ble_eq_true rfl) ⟨by decide, by decide⟩ (fun r u p_1 => ?_)
  obtain ⟨rfl, rfl⟩ := p_1
  refine g_perm (ws1 := [(m0, oo 7 (fMo ra mm nf ti so ta go sl lo cn lx ly pm pi)), (ra 29, aZ E 30 cl), (ra 30, aI E 30 pl), (ra 31, aZ E 6 se), (ra 32, aI E 6 ru)]) [0, 1, 2, 3, 4] rfl (by decide) rfl ?_
  refine g_if_eq_b (tgt := 14) dX7_stack_4 rfl (fun c_2 => ?_) (fun c_2 => ?_)
  · refine g_iload_n 2 dX7_stack_7 rfl rfl ?_
    refine g_callS_i (n := 1) (As := [.int (iI pal)]) (wr := [(m0, oo 7 (fMo ra mm nf ti so ta go sl lo cn lx ly pm pi)), (ra 29, aZ E 30 cl), (ra 30, aI E 30 pl), (ra 31, aZ E 6 se), (ra 32, aI E 6 ru)]) [] (c_X7_isPallet E pal (by omega)) [] [0, 1, 2, 3, 4] gX7_stack_X7_isPallet rfl ⟨rfl, by decide +kernel⟩ ⟨by decide, by decide⟩ rfl rfl rfl rfl rfl (by decide) rfl (by decide) (by decide) (fun _ h => absurd h List.not_mem_nil) dX7_stack_8 rfl (Nat.le_of_ble_eq_true rfl) ⟨by decide, by decide⟩ (fun r u p_3 => ?_)
    obtain ⟨rfl, rfl⟩ := p_3
    refine g_perm (ws1 := [(m0, oo 7 (fMo ra mm nf ti so ta go sl lo cn lx ly pm pi)), (ra 29, aZ E 30 cl), (ra 30, aI E 30 pl), (ra 31, aZ E 6 se), (ra 32, aI E 6 ru)]) [0, 1, 2, 3, 4] rfl (by decide) rfl ?_
    refine g_if_ne_b (tgt := 16) dX7_stack_11 rfl (fun c_4 => ?_) (fun c_4 => ?_)
    · refine g_aload_n 0 dX7_stack_16 rfl rfl ?_
      refine g_get (C := RX7) (T := TX7) (N := 43) 0 29 (fun _ h => List.mem_cons_of_mem _ (List.mem_append_right _ h)) (List.mem_of_getElem? (i := 1) rfl) rfl rfl (by decide) rfl rfl dX7_stack_17 ?_
      refine g_iload_n 1 dX7_stack_20 rfl rfl ?_
      refine g_zald 1 dX7_stack_21 rfl (by decide) (by omega) (by omega) ?_
      have q_5 := hcl box
      refine g_if_eq (tgt := 43) (by unfold R32; omega) dX7_stack_22 rfl (fun c_6 => ?_) (fun c_6 => ?_)
      · refine g_bipush dX7_stack_43 rfl ?_
        exact g_iret hRet dX7_stack_45 rfl ⟨(-2), pl, on, (by unfold sp_stack sStack; rw [if_neg (by omega), if_pos (by omega)]; exact ⟨rfl, rfl, rfl⟩), rfl, rfl⟩
      · refine g_aload_n 0 dX7_stack_25 rfl rfl ?_
        refine g_get (C := RX7) (T := TX7) (N := 43) 0 30 (fun _ h => List.mem_cons_of_mem _ (List.mem_append_right _ h)) (List.mem_of_getElem? (i := 2) rfl) rfl rfl (by decide) rfl rfl dX7_stack_26 ?_
        refine g_iload_n 1 dX7_stack_29 rfl rfl ?_
        refine g_iald 2 dX7_stack_30 rfl (by decide) (by omega) (by omega) ?_
        have q_7 := hpl box
        refine g_if_ge (tgt := 43) (by unfold R32; omega) dX7_stack_31 rfl (fun c_8 => ?_) (fun c_8 => ?_)
        · refine g_bipush dX7_stack_43 rfl ?_
          exact g_iret hRet dX7_stack_45 rfl ⟨(-2), pl, on, (by unfold sp_stack sStack; rw [if_neg (by omega), if_pos (by omega)]; exact ⟨rfl, rfl, rfl⟩), rfl, rfl⟩
        · refine g_aload_n 0 dX7_stack_34 rfl rfl ?_
          refine g_get (C := RX7) (T := TX7) (N := 43) 0 31 (fun _ h => List.mem_cons_of_mem _ (List.mem_append_right _ h)) (List.mem_of_getElem? (i := 3) rfl) rfl rfl (by decide) rfl rfl dX7_stack_35 ?_
          refine g_iload_n 2 dX7_stack_38 rfl rfl ?_
          refine g_zald 3 dX7_stack_39 rfl (by decide) (by omega) (by omega) ?_
          have q_9 := hse pal
          refine g_if_eq (tgt := 46) (by unfold R32; omega) dX7_stack_40 rfl (fun c_10 => ?_) (fun c_10 => ?_)
          · refine g_aload_n 0 dX7_stack_46 rfl rfl ?_
            refine g_iload_n 2 dX7_stack_47 rfl rfl ?_
            refine g_callV_i (n := 1) (As := [.int (iI pal)]) (wr := [(ra 29, aZ E 30 cl), (ra 31, aZ E 6 se), (ra 32, aI E 6 ru)]) (C := RX7) [] (c_X7_casesOn E m0 ra mm nf ti so ta go sl lo cn lx ly pm pi pl pal (by omega) (by omega) (by omega)) [0, 2] [1, 3, 4] 0 rfl rfl gX7_stack_X7_casesOn rfl ⟨rfl, by decide +kernel⟩ ⟨by decide, by decide⟩ rfl rfl rfl rfl rfl (by decide) rfl (by decide) (by decide) (fun _ h => absurd h List.not_mem_nil) dX7_stack_48 rfl (Nat.le_of_ble_eq_true rfl) ⟨by decide, by decide⟩ (fun r u p_11 => ?_)
            obtain ⟨rfl, rfl⟩ := p_11
            refine g_perm (ws1 := [(m0, oo 7 (fMo ra mm nf ti so ta go sl lo cn lx ly pm pi)), (ra 29, aZ E 30 cl), (ra 30, aI E 30 pl), (ra 31, aZ E 6 se), (ra 32, aI E 6 ru)]) [3, 0, 4, 1, 2] rfl (by decide) rfl ?_
            have hu := hon pal (by omega) (by omega)
            have hub := ctI_b pl pal (show (0:Int) ≤ 30 by omega)
            refine g_aload_n 0 dX7_stack_51 rfl rfl ?_
            refine g_get (C := RX7) (T := TX7) (N := 43) 0 32 (fun _ h => List.mem_cons_of_mem _ (List.mem_append_right _ h)) (List.mem_of_getElem? (i := 4) rfl) rfl rfl (by decide) rfl rfl dX7_stack_52 ?_
            refine g_iconst dX7_stack_55 ?_
            refine g_iald 4 dX7_stack_56 rfl (by decide) (by omega) (by omega) ?_
            refine g_icmp_lt (tgt := 63) (by unfold R32; omega) (by unfold R32; omega) dX7_stack_57 rfl (fun c_12 => ?_) (fun c_12 => ?_)
            · refine g_aload_n 0 dX7_stack_63 rfl rfl ?_
              refine g_get (C := RX7) (T := TX7) (N := 43) 0 30 (fun _ h => List.mem_cons_of_mem _ (List.mem_append_right _ h)) (List.mem_of_getElem? (i := 2) rfl) rfl rfl (by decide) rfl rfl dX7_stack_64 ?_
              refine g_iload_n 1 dX7_stack_67 rfl rfl ?_
              refine g_iload_n 2 dX7_stack_68 rfl rfl ?_
              refine g_iast (ws1 := [(m0, oo 7 (fMo ra mm nf ti so ta go sl lo cn lx ly pm pi)), (ra 29, aZ E 30 cl), (ra 30, aI E 30 (up pl box pal)), (ra 31, aZ E 6 se), (ra 32, aI E 6 ru)]) 2 dX7_stack_69 rfl rfl (by decide) (by omega) (by omega) ?_
              refine g_aload_n 0 dX7_stack_70 rfl rfl ?_
              refine g_iload_n 2 dX7_stack_71 rfl rfl ?_
              refine g_callV_i (n := 1) (As := [.int (iI pal)]) (wr := [(ra 29, aZ E 30 cl), (ra 31, aZ E 6 se), (ra 32, aI E 6 ru)]) (C := RX7) [] (c_X7_casesOn E m0 ra mm nf ti so ta go sl lo cn lx ly pm pi (up pl box pal) pal (by omega) (by intro k; unfold up; split <;> have q9 := hpl k <;> omega) (by omega)) [0, 2] [1, 3, 4] 0 rfl rfl gX7_stack_X7_casesOn rfl ⟨rfl, by decide +kernel⟩ ⟨by decide, by decide⟩ rfl rfl rfl rfl rfl (by decide) rfl (by decide) (by decide) (fun _ h => absurd h List.not_mem_nil) dX7_stack_72 rfl (Nat.le_of_ble_eq_true rfl) ⟨by decide, by decide⟩ (fun r u p_13 => ?_)
              obtain ⟨rfl, rfl⟩ := p_13
              refine g_perm (ws1 := [(m0, oo 7 (fMo ra mm nf ti so ta go sl lo cn lx ly pm pi)), (ra 29, aZ E 30 cl), (ra 30, aI E 30 (up pl box pal)), (ra 31, aZ E 6 se), (ra 32, aI E 6 ru)]) [3, 0, 4, 1, 2] rfl (by decide) rfl ?_
              have hv := ctI_up (f := pl) pal pal (show 0 ≤ box by omega) (show box < 30 by omega)
              rw [if_pos rfl, if_neg (by omega)] at hv
              exact g_iret hRet dX7_stack_75 rfl ⟨(ctI (up pl box pal) 30 pal), (up pl box pal), (up on pal (on pal + 1)), (by unfold sp_stack sStack; rw [if_neg (by omega), if_neg (by omega), if_neg (by omega)]; exact ⟨by omega, rfl, rfl⟩), rfl, rfl⟩
            · refine g_bipush dX7_stack_60 rfl ?_
              exact g_iret hRet dX7_stack_62 rfl ⟨(-3), pl, on, (by unfold sp_stack sStack; rw [if_neg (by omega), if_neg (by omega), if_pos (by omega)]; exact ⟨rfl, rfl, rfl⟩), rfl, rfl⟩
          · refine g_bipush dX7_stack_43 rfl ?_
            exact g_iret hRet dX7_stack_45 rfl ⟨(-2), pl, on, (by unfold sp_stack sStack; rw [if_neg (by omega), if_pos (by omega)]; exact ⟨rfl, rfl, rfl⟩), rfl, rfl⟩
    · refine g_iconst dX7_stack_14 ?_
      exact g_iret hRet dX7_stack_15 rfl ⟨(-1), pl, on, (by unfold sp_stack; rw [if_pos (by omega)]; exact ⟨rfl, rfl, rfl⟩), rfl, rfl⟩
  · refine g_iconst dX7_stack_14 ?_
    exact g_iret hRet dX7_stack_15 rfl ⟨(-1), pl, on, (by unfold sp_stack; rw [if_pos (by omega)]; exact ⟨rfl, rfl, rfl⟩), rfl, rfl⟩

set_option maxHeartbeats 4000000 in
set_option maxRecDepth 100000 in
theorem c_X7_seal (E : Ev) (m0 : Nat) (ra : Nat → Nat) (mm : Int) (nf : Int) (ti : Int) (so : Int) (ta : Int) (go : Int) (sl : Int) (lo : Int) (cn : Int) (lx : Int) (ly : Int) (pm : Int) (pi : Int) (pl : Int → Int) (se : Int → Int) (on : Int → Int) (pal : Int) (hcn : 0 ≤ cn ∧ cn ≤ 200) (hpl : ∀ k, (pl k = -4 ∨ 0 ≤ pl k) ∧ pl k ≤ 5) (hse : ∀ k, 0 ≤ se k ∧ se k ≤ 1) (h_pal : -2147483648 ≤ pal ∧ pal ≤ 2147483647) (hon : ∀ c, 0 ≤ c → c < 6 → on c = ctI pl 30 c) : MI yX7_seal wsX7_seal ({ frames := 2, cells := 0, slots := 0, locals := 42 } : Room) E [] 0 0 [.ref m0, .int (iI pal)] [(m0, oo 7 (fMo ra mm nf ti so ta go sl lo cn lx ly pm pi)), (ra 30, aI E 30 pl), (ra 31, aZ E 6 se)] (fun r u => ∃ (x : Int), ∃ (se' : Int → Int), sp_seal on se pal x se' ∧ r = iI x ∧ u = [(m0, oo 7 (fMo ra mm nf ti so ta go sl lo cn lx ly pm pi)), (ra 30, aI E 30 pl), (ra 31, aZ E 6 se')]) := by
  refine MI.of (cc := cX7_seal) (maxL := 3) (own := RX7) (by decide) rfl rfl rfl (Nat.le_of_ble_eq_true rfl) [(0, .ref m0), (1, .int (iI pal))] rfl ?_
  intro X hin2 hRet
  refine g_iload_n 1 dX7_seal_0 rfl rfl ?_
  refine g_callS_i (n := 1) (As := [.int (iI pal)]) (wr := [(m0, oo 7 (fMo ra mm nf ti so ta go sl lo cn lx ly pm pi)), (ra 30, aI E 30 pl), (ra 31, aZ E 6 se)]) [] (c_X7_isPallet E pal (by omega)) [] [0, 1, 2] gX7_seal_X7_isPallet rfl ⟨rfl, by decide +kernel⟩ ⟨by decide, by decide⟩ rfl rfl rfl rfl rfl (by decide) rfl (by decide) (by decide) (fun _ h => absurd h List.not_mem_nil) dX7_seal_1 rfl (Nat.le_of_ble_eq_true rfl) ⟨by decide, by decide⟩ (fun r u p_1 => ?_)
  obtain ⟨rfl, rfl⟩ := p_1
  refine g_perm (ws1 := [(m0, oo 7 (fMo ra mm nf ti so ta go sl lo cn lx ly pm pi)), (ra 30, aI E 30 pl), (ra 31, aZ E 6 se)]) [0, 1, 2] rfl (by decide) rfl ?_
  refine g_if_ne_b (tgt := 9) dX7_seal_4 rfl (fun c_2 => ?_) (fun c_2 => ?_)
  · refine g_aload_n 0 dX7_seal_9 rfl rfl ?_
    refine g_iload_n 1 dX7_seal_10 rfl rfl ?_
    refine g_callV_i (n := 1) (As := [.int (iI pal)]) (wr := [(ra 31, aZ E 6 se)]) (C := RX7) [] (c_X7_casesOn E m0 ra mm nf ti so ta go sl lo cn lx ly pm pi pl pal (by omega) (by omega) (by omega)) [0, 1] [2] 0 rfl rfl gX7_seal_X7_casesOn rfl ⟨rfl, by decide +kernel⟩ ⟨by decide, by decide⟩ rfl rfl rfl rfl rfl (by decide) rfl (by decide) (by decide) (fun _ h => absurd h List.not_mem_nil) dX7_seal_11 rfl (Nat.le_of_ble_eq_true rfl) ⟨by decide, by decide⟩ (fun r u p_3 => ?_)
    obtain ⟨rfl, rfl⟩ := p_3
    refine g_perm (ws1 := [(m0, oo 7 (fMo ra mm nf ti so ta go sl lo cn lx ly pm pi)), (ra 30, aI E 30 pl), (ra 31, aZ E 6 se)]) [1, 2, 0] rfl (by decide) rfl ?_
    have hu := hon pal (by omega) (by omega)
    have hub := ctI_b pl pal (show (0:Int) ≤ 30 by omega)
    refine g_istore_n (lv1 := [(2, .int (iI (ctI pl 30 pal))), (0, .ref m0), (1, .int (iI pal))]) dX7_seal_14 rfl (by decide) rfl ?_
    refine g_aload_n 1 dX7_seal_15 rfl rfl ?_
    refine g_get (C := RX7) (T := TX7) (N := 43) 0 31 (fun _ h => List.mem_cons_of_mem _ (List.mem_append_right _ h)) (List.mem_of_getElem? (i := 1) rfl) rfl rfl (by decide) rfl rfl dX7_seal_16 ?_
    refine g_iload_n 2 dX7_seal_19 rfl rfl ?_
    refine g_zald 2 dX7_seal_20 rfl (by decide) (by omega) (by omega) ?_
    have q_4 := hse pal
    refine g_if_ne (tgt := 28) (by unfold R32; omega) dX7_seal_21 rfl (fun c_5 => ?_) (fun c_5 => ?_)
    · refine g_iload_n 0 dX7_seal_24 rfl rfl ?_
      refine g_if_ne (tgt := 31) (by unfold R32; omega) dX7_seal_25 rfl (fun c_6 => ?_) (fun c_6 => ?_)
      · refine g_bipush dX7_seal_28 rfl ?_
        exact g_iret hRet dX7_seal_30 rfl ⟨(-2), se, (by unfold sp_seal sSeal; rw [if_neg (by omega), if_pos (by omega)]; exact ⟨rfl, rfl⟩), rfl, rfl⟩
      · refine g_aload_n 1 dX7_seal_31 rfl rfl ?_
        refine g_get (C := RX7) (T := TX7) (N := 43) 0 31 (fun _ h => List.mem_cons_of_mem _ (List.mem_append_right _ h)) (List.mem_of_getElem? (i := 1) rfl) rfl rfl (by decide) rfl rfl dX7_seal_32 ?_
        refine g_iload_n 2 dX7_seal_35 rfl rfl ?_
        refine g_iconst dX7_seal_36 ?_
        refine g_zast (ws1 := [(m0, oo 7 (fMo ra mm nf ti so ta go sl lo cn lx ly pm pi)), (ra 30, aI E 30 pl), (ra 31, aZ E 6 (up se pal 1))]) 2 dX7_seal_37 rfl (by omega) rfl (by decide) (by omega) (by omega) ?_
        refine g_iload_n 0 dX7_seal_38 rfl rfl ?_
        exact g_iret hRet dX7_seal_39 rfl ⟨(ctI pl 30 pal), (up se pal 1), (by unfold sp_seal sSeal; rw [if_neg (by omega), if_neg (by omega)]; exact ⟨by omega, rfl⟩), rfl, rfl⟩
    · refine g_bipush dX7_seal_28 rfl ?_
      exact g_iret hRet dX7_seal_30 rfl ⟨(-2), se, (by unfold sp_seal sSeal; rw [if_neg (by omega), if_pos (by omega)]; exact ⟨rfl, rfl⟩), rfl, rfl⟩
  · refine g_iconst dX7_seal_7 ?_
    exact g_iret hRet dX7_seal_8 rfl ⟨(-1), se, (by unfold sp_seal; rw [if_pos (by omega)]; exact ⟨rfl, rfl⟩), rfl, rfl⟩

set_option maxHeartbeats 4000000 in
set_option maxRecDepth 100000 in
theorem c_X7_code (E : Ev) (m0 : Nat) (ra : Nat → Nat) (mm : Int) (nf : Int) (ti : Int) (so : Int) (ta : Int) (go : Int) (sl : Int) (lo : Int) (cn : Int) (lx : Int) (ly : Int) (pm : Int) (pi : Int) (bo : Int → Int) (pl : Int → Int) (lt : Int → Int) (wg : Int → Int) (code : Int) (what : Int) (hcn : 0 ≤ cn ∧ cn ≤ 200) (hbo : ∀ k, (bo k = -4 ∨ 0 ≤ bo k) ∧ bo k ≤ 29) (hpl : ∀ k, (pl k = -4 ∨ 0 ≤ pl k) ∧ pl k ≤ 5) (hlt : ∀ k, 0 ≤ lt k ∧ lt k ≤ 15) (hwg : ∀ k, (wg k = -4 ∨ 0 ≤ wg k) ∧ wg k ≤ 10000) (h_code : -2147483648 ≤ code ∧ code ≤ 2147483647) (h_what : -2147483648 ≤ what ∧ what ≤ 2147483647) : MI yX7_code wsX7_code ({ frames := 2, cells := 0, slots := 0, locals := 43 } : Room) E [] 0 0 [.ref m0, .int (iI code), .int (iI what)] [(m0, oo 7 (fMo ra mm nf ti so ta go sl lo cn lx ly pm pi)), (ra 27, aI E 200 bo), (ra 30, aI E 30 pl), (ra 26, aI E 200 lt), (ra 28, aI E 200 wg)] (fun r u => r = iI (f_code cn bo pl lt wg code what) ∧ u = [(m0, oo 7 (fMo ra mm nf ti so ta go sl lo cn lx ly pm pi)), (ra 27, aI E 200 bo), (ra 30, aI E 30 pl), (ra 26, aI E 200 lt), (ra 28, aI E 200 wg)]) := by
  refine MI.of (cc := cX7_code) (maxL := 4) (own := RX7) (by decide) rfl rfl rfl (Nat.le_of_ble_eq_true rfl) [(0, .ref m0), (1, .int (iI code)), (2, .int (iI what))] rfl ?_
  intro X hin2 hRet
  refine g_aload_n 0 dX7_code_0 rfl rfl ?_
  refine g_iload_n 1 dX7_code_1 rfl rfl ?_
  refine g_callV_i (n := 1) (As := [.int (iI code)]) (wr := [(ra 27, aI E 200 bo), (ra 30, aI E 30 pl), (ra 26, aI E 200 lt), (ra 28, aI E 200 wg)]) (C := RX7) [] (c_X7_isCode E m0 ra mm nf ti so ta go sl lo cn lx ly pm pi code (by omega) (by omega)) [0] [1, 2, 3, 4] 0 rfl rfl gX7_code_X7_isCode rfl ⟨rfl, by decide +kernel⟩ ⟨by decide, by decide⟩ rfl rfl rfl rfl rfl (by decide) rfl (by decide) (by decide) (fun _ h => absurd h List.not_mem_nil) dX7_code_2 rfl (Nat.le_of_ble_eq_true rfl) ⟨by decide, by decide⟩ (fun r u p_1 => ?_)
  obtain ⟨rfl, rfl⟩ := p_1
  refine g_perm (ws1 := [(m0, oo 7 (fMo ra mm nf ti so ta go sl lo cn lx ly pm pi)), (ra 27, aI E 200 bo), (ra 30, aI E 30 pl), (ra 26, aI E 200 lt), (ra 28, aI E 200 wg)]) [4, 0, 1, 2, 3] rfl (by decide) rfl ?_
  refine g_if_eq_b (tgt := 17) dX7_code_5 rfl (fun c_2 => ?_) (fun c_2 => ?_)
  · refine g_iload_n 2 dX7_code_8 rfl rfl ?_
    refine g_iconst dX7_code_9 ?_
    refine g_iconst dX7_code_10 ?_
    refine g_callS_i (n := 3) (As := [.int (iI what), .int (iI 0), .int (iI 3)]) (wr := [(m0, oo 7 (fMo ra mm nf ti so ta go sl lo cn lx ly pm pi)), (ra 27, aI E 200 bo), (ra 30, aI E 30 pl), (ra 26, aI E 200 lt), (ra 28, aI E 200 wg)]) [] (c_X7_in E what 0 3 (by omega) (by omega) (by omega)) [] [0, 1, 2, 3, 4] gX7_code_X7_in rfl ⟨rfl, by decide +kernel⟩ ⟨by decide, by decide⟩ rfl rfl rfl rfl rfl (by decide) rfl (by decide) (by decide) (fun _ h => absurd h List.not_mem_nil) dX7_code_11 rfl (Nat.le_of_ble_eq_true rfl) ⟨by decide, by decide⟩ (fun r u p_3 => ?_)
    obtain ⟨rfl, rfl⟩ := p_3
    refine g_perm (ws1 := [(m0, oo 7 (fMo ra mm nf ti so ta go sl lo cn lx ly pm pi)), (ra 27, aI E 200 bo), (ra 30, aI E 30 pl), (ra 26, aI E 200 lt), (ra 28, aI E 200 wg)]) [0, 1, 2, 3, 4] rfl (by decide) rfl ?_
    refine g_if_ne_b (tgt := 19) dX7_code_14 rfl (fun c_4 => ?_) (fun c_4 => ?_)
    · refine g_aload_n 0 dX7_code_19 rfl rfl ?_
      refine g_get (C := RX7) (T := TX7) (N := 43) 0 27 (fun _ h => List.mem_cons_of_mem _ (List.mem_append_right _ h)) (List.mem_of_getElem? (i := 1) rfl) rfl rfl (by decide) rfl rfl dX7_code_20 ?_
      refine g_iload_n 1 dX7_code_23 rfl rfl ?_
      refine g_iald 1 dX7_code_24 rfl (by decide) (by omega) (by omega) ?_
      have q_5 := hbo code
      refine g_istore_n (lv1 := [(3, .int (iI (bo code))), (0, .ref m0), (1, .int (iI code)), (2, .int (iI what))]) dX7_code_25 rfl (by decide) rfl ?_
      refine g_iload_n 3 dX7_code_26 rfl rfl ?_
      refine g_if_ne (tgt := 34) (by unfold R32; omega) dX7_code_27 rfl (fun c_6 => ?_) (fun c_6 => ?_)
      · refine g_iload_n 0 dX7_code_30 rfl rfl ?_
        refine g_goto (tgt := 77) dX7_code_31 rfl ?_
        exact g_iret hRet dX7_code_77 rfl ⟨(congrArg iI (by unfold f_code pOf; (repeat' split) <;> first | rfl | (exfalso; omega))), rfl⟩
      · refine g_iload_n 3 dX7_code_34 rfl rfl ?_
        refine g_iconst dX7_code_35 ?_
        refine g_icmp_ne (tgt := 57) (by unfold R32; omega) (by unfold R32; omega) dX7_code_36 rfl (fun c_7 => ?_) (fun c_7 => ?_)
        · refine g_iload_n 0 dX7_code_39 rfl rfl ?_
          refine g_if_ge (tgt := 48) (by unfold R32; omega) dX7_code_40 rfl (fun c_8 => ?_) (fun c_8 => ?_)
          · refine g_aload_n 1 dX7_code_48 rfl rfl ?_
            refine g_get (C := RX7) (T := TX7) (N := 43) 0 30 (fun _ h => List.mem_cons_of_mem _ (List.mem_append_right _ h)) (List.mem_of_getElem? (i := 2) rfl) rfl rfl (by decide) rfl rfl dX7_code_49 ?_
            refine g_iload_n 0 dX7_code_52 rfl rfl ?_
            refine g_iald 2 dX7_code_53 rfl (by decide) (by omega) (by omega) ?_
            have q_9 := hpl (bo code)
            refine g_goto (tgt := 77) dX7_code_54 rfl ?_
            exact g_iret hRet dX7_code_77 rfl ⟨(congrArg iI (by unfold f_code pOf; (repeat' split) <;> first | rfl | (exfalso; omega))), rfl⟩
          · refine g_bipush dX7_code_43 rfl ?_
            refine g_goto (tgt := 77) dX7_code_45 rfl ?_
            exact g_iret hRet dX7_code_77 rfl ⟨(congrArg iI (by unfold f_code pOf; (repeat' split) <;> first | rfl | (exfalso; omega))), rfl⟩
        · refine g_iload_n 3 dX7_code_57 rfl rfl ?_
          refine g_iconst dX7_code_58 ?_
          refine g_icmp_ne (tgt := 71) (by unfold R32; omega) (by unfold R32; omega) dX7_code_59 rfl (fun c_10 => ?_) (fun c_10 => ?_)
          · refine g_aload_n 1 dX7_code_62 rfl rfl ?_
            refine g_get (C := RX7) (T := TX7) (N := 43) 0 26 (fun _ h => List.mem_cons_of_mem _ (List.mem_append_right _ h)) (List.mem_of_getElem? (i := 3) rfl) rfl rfl (by decide) rfl rfl dX7_code_63 ?_
            refine g_iload_n 2 dX7_code_66 rfl rfl ?_
            refine g_iald 3 dX7_code_67 rfl (by decide) (by omega) (by omega) ?_
            have q_11 := hlt code
            refine g_goto (tgt := 77) dX7_code_68 rfl ?_
            exact g_iret hRet dX7_code_77 rfl ⟨(congrArg iI (by unfold f_code pOf; (repeat' split) <;> first | rfl | (exfalso; omega))), rfl⟩
          · refine g_aload_n 1 dX7_code_71 rfl rfl ?_
            refine g_get (C := RX7) (T := TX7) (N := 43) 0 28 (fun _ h => List.mem_cons_of_mem _ (List.mem_append_right _ h)) (List.mem_of_getElem? (i := 4) rfl) rfl rfl (by decide) rfl rfl dX7_code_72 ?_
            refine g_iload_n 2 dX7_code_75 rfl rfl ?_
            refine g_iald 4 dX7_code_76 rfl (by decide) (by omega) (by omega) ?_
            have q_12 := hwg code
            exact g_iret hRet dX7_code_77 rfl ⟨(congrArg iI (by unfold f_code pOf; (repeat' split) <;> first | rfl | (exfalso; omega))), rfl⟩
    · refine g_iconst dX7_code_17 ?_
      exact g_iret hRet dX7_code_18 rfl ⟨(congrArg iI (by unfold f_code pOf; (repeat' split) <;> first | rfl | (exfalso; omega))), rfl⟩
  · refine g_iconst dX7_code_17 ?_
    exact g_iret hRet dX7_code_18 rfl ⟨(congrArg iI (by unfold f_code pOf; (repeat' split) <;> first | rfl | (exfalso; omega))), rfl⟩

set_option maxHeartbeats 4000000 in
set_option maxRecDepth 100000 in
theorem c_X7_box (E : Ev) (m0 : Nat) (ra : Nat → Nat) (mm : Int) (nf : Int) (ti : Int) (so : Int) (ta : Int) (go : Int) (sl : Int) (lo : Int) (cn : Int) (lx : Int) (ly : Int) (pm : Int) (pi : Int) (bo : Int → Int) (cl : Int → Int) (pl : Int → Int) (un : Int → Int) (box : Int) (what : Int) (hcn : 0 ≤ cn ∧ cn ≤ 200) (hbo : ∀ k, (bo k = -4 ∨ 0 ≤ bo k) ∧ bo k ≤ 29) (hcl : ∀ k, 0 ≤ cl k ∧ cl k ≤ 1) (hpl : ∀ k, (pl k = -4 ∨ 0 ≤ pl k) ∧ pl k ≤ 5) (h_box : -2147483648 ≤ box ∧ box ≤ 2147483647) (h_what : -2147483648 ≤ what ∧ what ≤ 2147483647) (hun : ∀ c, 0 ≤ c → c < 30 → un c = ctI bo cn c) : MI yX7_box wsX7_box ({ frames := 2, cells := 0, slots := 0, locals := 42 } : Room) E [] 0 0 [.ref m0, .int (iI box), .int (iI what)] [(m0, oo 7 (fMo ra mm nf ti so ta go sl lo cn lx ly pm pi)), (ra 27, aI E 200 bo), (ra 29, aZ E 30 cl), (ra 30, aI E 30 pl)] (fun r u => ∃ (x : Int), sp_box cn bo un cl pl box what x ∧ r = iI x ∧ u = [(m0, oo 7 (fMo ra mm nf ti so ta go sl lo cn lx ly pm pi)), (ra 27, aI E 200 bo), (ra 29, aZ E 30 cl), (ra 30, aI E 30 pl)]) := by
  refine MI.of (cc := cX7_box) (maxL := 3) (own := RX7) (by decide) rfl rfl rfl (Nat.le_of_ble_eq_true rfl) [(0, .ref m0), (1, .int (iI box)), (2, .int (iI what))] rfl ?_
  intro X hin2 hRet
  refine g_iload_n 1 dX7_box_0 rfl rfl ?_
  refine g_callS_i (n := 1) (As := [.int (iI box)]) (wr := [(m0, oo 7 (fMo ra mm nf ti so ta go sl lo cn lx ly pm pi)), (ra 27, aI E 200 bo), (ra 29, aZ E 30 cl), (ra 30, aI E 30 pl)]) [] (c_X7_isCase E box (by omega)) [] [0, 1, 2, 3] gX7_box_X7_isCase rfl ⟨rfl, by decide +kernel⟩ ⟨by decide, by decide⟩ rfl rfl rfl rfl rfl (by decide) rfl (by decide) (by decide) (fun _ h => absurd h List.not_mem_nil) dX7_box_1 rfl (Nat.le_of_ble_eq_true rfl) ⟨by decide, by decide⟩ (fun r u p_1 => ?_)
  obtain ⟨rfl, rfl⟩ := p_1
  refine g_perm (ws1 := [(m0, oo 7 (fMo ra mm nf ti so ta go sl lo cn lx ly pm pi)), (ra 27, aI E 200 bo), (ra 29, aZ E 30 cl), (ra 30, aI E 30 pl)]) [0, 1, 2, 3] rfl (by decide) rfl ?_
  refine g_if_eq_b (tgt := 16) dX7_box_4 rfl (fun c_2 => ?_) (fun c_2 => ?_)
  · refine g_iload_n 2 dX7_box_7 rfl rfl ?_
    refine g_iconst dX7_box_8 ?_
    refine g_iconst dX7_box_9 ?_
    refine g_callS_i (n := 3) (As := [.int (iI what), .int (iI 0), .int (iI 4)]) (wr := [(m0, oo 7 (fMo ra mm nf ti so ta go sl lo cn lx ly pm pi)), (ra 27, aI E 200 bo), (ra 29, aZ E 30 cl), (ra 30, aI E 30 pl)]) [] (c_X7_in E what 0 4 (by omega) (by omega) (by omega)) [] [0, 1, 2, 3] gX7_box_X7_in rfl ⟨rfl, by decide +kernel⟩ ⟨by decide, by decide⟩ rfl rfl rfl rfl rfl (by decide) rfl (by decide) (by decide) (fun _ h => absurd h List.not_mem_nil) dX7_box_10 rfl (Nat.le_of_ble_eq_true rfl) ⟨by decide, by decide⟩ (fun r u p_3 => ?_)
    obtain ⟨rfl, rfl⟩ := p_3
    refine g_perm (ws1 := [(m0, oo 7 (fMo ra mm nf ti so ta go sl lo cn lx ly pm pi)), (ra 27, aI E 200 bo), (ra 29, aZ E 30 cl), (ra 30, aI E 30 pl)]) [0, 1, 2, 3] rfl (by decide) rfl ?_
    refine g_if_ne_b (tgt := 18) dX7_box_13 rfl (fun c_4 => ?_) (fun c_4 => ?_)
    · refine g_iload_n 2 dX7_box_18 rfl rfl ?_
      rcases (show what = 0 ∨ what = 1 ∨ what = 2 ∨ what = 3 ∨ (what < 0 ∨ 3 < what) by omega) with c_5 | c_5 | c_5 | c_5 | c_5
      · refine g_tableIn (tgt := 48) (off := 29) (by unfold R32; omega) dX7_box_19 (by omega) (by rw [c_5]; rfl) rfl ?_
        refine g_aload_n 0 dX7_box_48 rfl rfl ?_
        refine g_iload_n 1 dX7_box_49 rfl rfl ?_
        refine g_callV_i (n := 1) (As := [.int (iI box)]) (wr := [(ra 29, aZ E 30 cl), (ra 30, aI E 30 pl)]) (C := RX7) [] (c_X7_units E m0 ra mm nf ti so ta go sl lo cn lx ly pm pi bo box (by omega) (by omega) (by omega)) [0, 1] [2, 3] 0 rfl rfl gX7_box_X7_units rfl ⟨rfl, by decide +kernel⟩ ⟨by decide, by decide⟩ rfl rfl rfl rfl rfl (by decide) rfl (by decide) (by decide) (fun _ h => absurd h List.not_mem_nil) dX7_box_50 rfl (Nat.le_of_ble_eq_true rfl) ⟨by decide, by decide⟩ (fun r u p_6 => ?_)
        obtain ⟨rfl, rfl⟩ := p_6
        refine g_perm (ws1 := [(m0, oo 7 (fMo ra mm nf ti so ta go sl lo cn lx ly pm pi)), (ra 27, aI E 200 bo), (ra 29, aZ E 30 cl), (ra 30, aI E 30 pl)]) [2, 3, 0, 1] rfl (by decide) rfl ?_
        have hu := hun box (by omega) (by omega)
        exact g_iret hRet dX7_box_53 rfl ⟨(ctI bo cn box), (by unfold sp_box; (repeat' split) <;> first | (exfalso; omega) | exact fq | omega), rfl, rfl⟩
      · refine g_tableIn (tgt := 54) (off := 35) (by unfold R32; omega) dX7_box_19 (by omega) (by rw [c_5]; rfl) rfl ?_
        refine g_aload_n 0 dX7_box_54 rfl rfl ?_
        refine g_get (C := RX7) (T := TX7) (N := 43) 0 29 (fun _ h => List.mem_cons_of_mem _ (List.mem_append_right _ h)) (List.mem_of_getElem? (i := 1) rfl) rfl rfl (by decide) rfl rfl dX7_box_55 ?_
        refine g_iload_n 1 dX7_box_58 rfl rfl ?_
        refine g_zald 2 dX7_box_59 rfl (by decide) (by omega) (by omega) ?_
        have q_7 := hcl box
        refine g_if_eq (tgt := 67) (by unfold R32; omega) dX7_box_60 rfl (fun c_8 => ?_) (fun c_8 => ?_)
        · refine g_iconst dX7_box_67 ?_
          exact g_iret hRet dX7_box_68 rfl ⟨0, (by unfold sp_box; (repeat' split) <;> first | (exfalso; omega) | exact fq | omega), rfl, rfl⟩
        · refine g_iconst dX7_box_63 ?_
          refine g_goto (tgt := 68) dX7_box_64 rfl ?_
          exact g_iret hRet dX7_box_68 rfl ⟨1, (by unfold sp_box; (repeat' split) <;> first | (exfalso; omega) | exact fq | omega), rfl, rfl⟩
      · refine g_tableIn (tgt := 69) (off := 50) (by unfold R32; omega) dX7_box_19 (by omega) (by rw [c_5]; rfl) rfl ?_
        refine g_aload_n 0 dX7_box_69 rfl rfl ?_
        refine g_get (C := RX7) (T := TX7) (N := 43) 0 30 (fun _ h => List.mem_cons_of_mem _ (List.mem_append_right _ h)) (List.mem_of_getElem? (i := 2) rfl) rfl rfl (by decide) rfl rfl dX7_box_70 ?_
        refine g_iload_n 1 dX7_box_73 rfl rfl ?_
        refine g_iald 3 dX7_box_74 rfl (by decide) (by omega) (by omega) ?_
        have q_9 := hpl box
        exact g_iret hRet dX7_box_75 rfl ⟨(pl box), (by unfold sp_box; (repeat' split) <;> first | (exfalso; omega) | exact fq | omega), rfl, rfl⟩
      · refine g_tableIn (tgt := 76) (off := 57) (by unfold R32; omega) dX7_box_19 (by omega) (by rw [c_5]; rfl) rfl ?_
        refine g_aload_n 0 dX7_box_76 rfl rfl ?_
        refine g_iload_n 1 dX7_box_77 rfl rfl ?_
        refine g_callV_i (n := 1) (As := [.int (iI box)]) (wr := [(ra 29, aZ E 30 cl), (ra 30, aI E 30 pl)]) (C := RX7) [] (c_X7_leastIn E m0 ra mm nf ti so ta go sl lo cn lx ly pm pi bo box (by omega) (by omega) (by omega)) [0, 1] [2, 3] 0 rfl rfl gX7_box_X7_leastIn rfl ⟨rfl, by decide +kernel⟩ ⟨by decide, by decide⟩ rfl rfl rfl rfl rfl (by decide) rfl (by decide) (by decide) (fun _ h => absurd h List.not_mem_nil) dX7_box_78 rfl (Nat.le_of_ble_eq_true rfl) ⟨by decide, by decide⟩ (fun r u p_10 => ?_)
        obtain ⟨x_11, fq, rfl, rfl⟩ := p_10
        refine g_perm (ws1 := [(m0, oo 7 (fMo ra mm nf ti so ta go sl lo cn lx ly pm pi)), (ra 27, aI E 200 bo), (ra 29, aZ E 30 cl), (ra 30, aI E 30 pl)]) [2, 3, 0, 1] rfl (by decide) rfl ?_
        exact g_iret hRet dX7_box_81 rfl ⟨x_11, (by unfold sp_box; (repeat' split) <;> first | (exfalso; omega) | exact fq | omega), rfl, rfl⟩
      · refine g_tableOut (tgt := 82) (by unfold R32; omega) dX7_box_19 c_5 rfl ?_
        refine g_aload_n 0 dX7_box_82 rfl rfl ?_
        refine g_iload_n 1 dX7_box_83 rfl rfl ?_
        refine g_callV_i (n := 1) (As := [.int (iI box)]) (wr := [(ra 29, aZ E 30 cl), (ra 30, aI E 30 pl)]) (C := RX7) [] (c_X7_greatestIn E m0 ra mm nf ti so ta go sl lo cn lx ly pm pi bo box (by omega) (by omega) (by omega)) [0, 1] [2, 3] 0 rfl rfl gX7_box_X7_greatestIn rfl ⟨rfl, by decide +kernel⟩ ⟨by decide, by decide⟩ rfl rfl rfl rfl rfl (by decide) rfl (by decide) (by decide) (fun _ h => absurd h List.not_mem_nil) dX7_box_84 rfl (Nat.le_of_ble_eq_true rfl) ⟨by decide, by decide⟩ (fun r u p_12 => ?_)
        obtain ⟨x_13, fq, rfl, rfl⟩ := p_12
        refine g_perm (ws1 := [(m0, oo 7 (fMo ra mm nf ti so ta go sl lo cn lx ly pm pi)), (ra 27, aI E 200 bo), (ra 29, aZ E 30 cl), (ra 30, aI E 30 pl)]) [2, 3, 0, 1] rfl (by decide) rfl ?_
        exact g_iret hRet dX7_box_87 rfl ⟨x_13, (by unfold sp_box; (repeat' split) <;> first | (exfalso; omega) | exact fq | omega), rfl, rfl⟩
    · refine g_iconst dX7_box_16 ?_
      exact g_iret hRet dX7_box_17 rfl ⟨(-1), (by unfold sp_box; (repeat' split) <;> first | (exfalso; omega) | exact fq | omega), rfl, rfl⟩
  · refine g_iconst dX7_box_16 ?_
    exact g_iret hRet dX7_box_17 rfl ⟨(-1), (by unfold sp_box; (repeat' split) <;> first | (exfalso; omega) | exact fq | omega), rfl, rfl⟩

set_option maxHeartbeats 4000000 in
set_option maxRecDepth 100000 in
theorem c_X7_scale (E : Ev) (m0 : Nat) (ra : Nat → Nat) (mm : Int) (nf : Int) (ti : Int) (so : Int) (ta : Int) (go : Int) (sl : Int) (lo : Int) (cn : Int) (lx : Int) (ly : Int) (pm : Int) (pi : Int) (wg : Int → Int) (code : Int) (v : Int) (hcn : 0 ≤ cn ∧ cn ≤ 200) (hwg : ∀ k, (wg k = -4 ∨ 0 ≤ wg k) ∧ wg k ≤ 10000) (h_code : -2147483648 ≤ code ∧ code ≤ 2147483647) (h_v : -2147483648 ≤ v ∧ v ≤ 2147483647) : MI yX7_scale wsX7_scale ({ frames := 2, cells := 0, slots := 0, locals := 43 } : Room) E [] 0 0 [.ref m0, .int (iI code), .int (iI v)] [(m0, oo 7 (fMo ra mm nf ti so ta go sl lo cn lx ly pm pi)), (ra 28, aI E 200 wg)] (fun r u => ∃ (x : Int), ∃ (wg' : Int → Int), sp_scale cn wg code v x wg' ∧ r = iI x ∧ u = [(m0, oo 7 (fMo ra mm nf ti so ta go sl lo cn lx ly pm pi)), (ra 28, aI E 200 wg')]) := by
  refine MI.of (cc := cX7_scale) (maxL := 4) (own := RX7) (by decide) rfl rfl rfl (Nat.le_of_ble_eq_true rfl) [(0, .ref m0), (1, .int (iI code)), (2, .int (iI v))] rfl ?_
  intro X hin2 hRet
  refine g_aload_n 0 dX7_scale_0 rfl rfl ?_
  refine g_iload_n 1 dX7_scale_1 rfl rfl ?_
  refine g_callV_i (n := 1) (As := [.int (iI code)]) (wr := [(ra 28, aI E 200 wg)]) (C := RX7) [] (c_X7_isCode E m0 ra mm nf ti so ta go sl lo cn lx ly pm pi code (by omega) (by omega)) [0] [1] 0 rfl rfl gX7_scale_X7_isCode rfl ⟨rfl, by decide +kernel⟩ ⟨by decide, by decide⟩ rfl rfl rfl rfl rfl (by decide) rfl (by decide) (by decide) (fun _ h => absurd h List.not_mem_nil) dX7_scale_2 rfl (Nat.le_of_ble_eq_true rfl) ⟨by decide, by decide⟩ (fun r u p_1 => ?_)
  obtain ⟨rfl, rfl⟩ := p_1
  refine g_perm (ws1 := [(m0, oo 7 (fMo ra mm nf ti so ta go sl lo cn lx ly pm pi)), (ra 28, aI E 200 wg)]) [1, 0] rfl (by decide) rfl ?_
  refine g_if_eq_b (tgt := 19) dX7_scale_5 rfl (fun c_2 => ?_) (fun c_2 => ?_)
  · refine g_iload_n 2 dX7_scale_8 rfl rfl ?_
    refine g_iconst dX7_scale_9 ?_
    refine g_sipush dX7_scale_10 rfl ?_
    refine g_callS_i (n := 3) (As := [.int (iI v), .int (iI 0), .int (iI 10000)]) (wr := [(m0, oo 7 (fMo ra mm nf ti so ta go sl lo cn lx ly pm pi)), (ra 28, aI E 200 wg)]) [] (c_X7_in E v 0 10000 (by omega) (by omega) (by omega)) [] [0, 1] gX7_scale_X7_in rfl ⟨rfl, by decide +kernel⟩ ⟨by decide, by decide⟩ rfl rfl rfl rfl rfl (by decide) rfl (by decide) (by decide) (fun _ h => absurd h List.not_mem_nil) dX7_scale_13 rfl (Nat.le_of_ble_eq_true rfl) ⟨by decide, by decide⟩ (fun r u p_3 => ?_)
    obtain ⟨rfl, rfl⟩ := p_3
    refine g_perm (ws1 := [(m0, oo 7 (fMo ra mm nf ti so ta go sl lo cn lx ly pm pi)), (ra 28, aI E 200 wg)]) [0, 1] rfl (by decide) rfl ?_
    refine g_if_ne_b (tgt := 21) dX7_scale_16 rfl (fun c_4 => ?_) (fun c_4 => ?_)
    · refine g_aload_n 0 dX7_scale_21 rfl rfl ?_
      refine g_get (C := RX7) (T := TX7) (N := 43) 0 28 (fun _ h => List.mem_cons_of_mem _ (List.mem_append_right _ h)) (List.mem_of_getElem? (i := 1) rfl) rfl rfl (by decide) rfl rfl dX7_scale_22 ?_
      refine g_iload_n 1 dX7_scale_25 rfl rfl ?_
      refine g_iald 1 dX7_scale_26 rfl (by decide) (by omega) (by omega) ?_
      have q_5 := hwg code
      refine g_istore_n (lv1 := [(3, .int (iI (wg code))), (0, .ref m0), (1, .int (iI code)), (2, .int (iI v))]) dX7_scale_27 rfl (by decide) rfl ?_
      refine g_aload_n 1 dX7_scale_28 rfl rfl ?_
      refine g_get (C := RX7) (T := TX7) (N := 43) 0 28 (fun _ h => List.mem_cons_of_mem _ (List.mem_append_right _ h)) (List.mem_of_getElem? (i := 1) rfl) rfl rfl (by decide) rfl rfl dX7_scale_29 ?_
      refine g_iload_n 2 dX7_scale_32 rfl rfl ?_
      refine g_iload_n 3 dX7_scale_33 rfl rfl ?_
      refine g_iast (ws1 := [(m0, oo 7 (fMo ra mm nf ti so ta go sl lo cn lx ly pm pi)), (ra 28, aI E 200 (up wg code v))]) 1 dX7_scale_34 rfl rfl (by decide) (by omega) (by omega) ?_
      refine g_iload_n 0 dX7_scale_35 rfl rfl ?_
      exact g_iret hRet dX7_scale_36 rfl ⟨(wg code), (up wg code v), (by unfold sp_scale; rw [if_neg (by omega)]; exact ⟨rfl, rfl⟩), rfl, rfl⟩
    · refine g_iconst dX7_scale_19 ?_
      exact g_iret hRet dX7_scale_20 rfl ⟨(-1), wg, (by unfold sp_scale; rw [if_pos (by omega)]; exact ⟨rfl, rfl⟩), rfl, rfl⟩
  · refine g_iconst dX7_scale_19 ?_
    exact g_iret hRet dX7_scale_20 rfl ⟨(-1), wg, (by unfold sp_scale; rw [if_pos (by omega)]; exact ⟨rfl, rfl⟩), rfl, rfl⟩

set_option maxHeartbeats 4000000 in
set_option maxRecDepth 100000 in
theorem c_X7_lot (E : Ev) (m0 : Nat) (ra : Nat → Nat) (mm : Int) (nf : Int) (ti : Int) (so : Int) (ta : Int) (go : Int) (sl : Int) (lo : Int) (cn : Int) (lx : Int) (ly : Int) (pm : Int) (pi : Int) (v : Int) (hcn : 0 ≤ cn ∧ cn ≤ 200) (h_v : -2147483648 ≤ v ∧ v ≤ 2147483647) : MI yX7_lot wsX7_lot ({ frames := 1, cells := 0, slots := 0, locals := 22 } : Room) E [] 0 0 [.ref m0, .int (iI v)] [(m0, oo 7 (fMo ra mm nf ti so ta go sl lo cn lx ly pm pi))] (fun r u => ∃ (x : Int), ∃ (lo' : Int), sp_lot lo v x lo' ∧ r = iI x ∧ u = [(m0, oo 7 (fMo ra mm nf ti so ta go sl lo' cn lx ly pm pi))]) := by
  refine MI.of (cc := cX7_lot) (maxL := 3) (own := RX7) (by decide) rfl rfl rfl (Nat.le_of_ble_eq_true rfl) [(0, .ref m0), (1, .int (iI v))] rfl ?_
  intro X hin2 hRet
  refine g_iload_n 1 dX7_lot_0 rfl rfl ?_
  refine g_iconst dX7_lot_1 ?_
  refine g_bipush dX7_lot_2 rfl ?_
  refine g_callS_i (n := 3) (As := [.int (iI v), .int (iI 0), .int (iI 15)]) (wr := [(m0, oo 7 (fMo ra mm nf ti so ta go sl lo cn lx ly pm pi))]) [] (c_X7_in E v 0 15 (by omega) (by omega) (by omega)) [] [0] gX7_lot_X7_in rfl ⟨rfl, by decide +kernel⟩ ⟨by decide, by decide⟩ rfl rfl rfl rfl rfl (by decide) rfl (by decide) (by decide) (fun _ h => absurd h List.not_mem_nil) dX7_lot_4 rfl (Nat.le_of_ble_eq_true rfl) ⟨by decide, by decide⟩ (fun r u p_1 => ?_)
  obtain ⟨rfl, rfl⟩ := p_1
  refine g_perm (ws1 := [(m0, oo 7 (fMo ra mm nf ti so ta go sl lo cn lx ly pm pi))]) [0] rfl (by decide) rfl ?_
  refine g_if_ne_b (tgt := 12) dX7_lot_7 rfl (fun c_2 => ?_) (fun c_2 => ?_)
  · refine g_aload_n 0 dX7_lot_12 rfl rfl ?_
    refine g_get (C := RX7) (T := TX7) (N := 43) 0 24 (fun _ h => List.mem_cons_of_mem _ (List.mem_append_right _ h)) (List.mem_of_getElem? (i := 1) rfl) rfl rfl (by decide) rfl rfl dX7_lot_13 ?_
    refine g_istore_n (lv1 := [(2, .int (iI lo)), (0, .ref m0), (1, .int (iI v))]) dX7_lot_16 rfl (by decide) rfl ?_
    refine g_aload_n 1 dX7_lot_17 rfl rfl ?_
    refine g_iload_n 2 dX7_lot_18 rfl rfl ?_
    refine g_put (C := RX7) (T := TX7) (N := 43) (ws1 := [(m0, oo 7 (fMo ra mm nf ti so ta go sl v cn lx ly pm pi))]) 0 24 (fun _ h => List.mem_cons_of_mem _ (List.mem_append_right _ h)) tyX7 tyX7_ok nmX7 (List.mem_of_getElem? (i := 1) rfl) rfl rfl (by decide) rfl (tyX7_ok 24 (by decide)) rfl rfl (by first | decide | exact Nat.le_of_ble_eq_true rfl) dX7_lot_19 rfl rfl ?_
    refine g_iload_n 0 dX7_lot_22 rfl rfl ?_
    exact g_iret hRet dX7_lot_23 rfl ⟨lo, v, (by unfold sp_lot; rw [if_neg (by omega)]; exact ⟨rfl, rfl⟩), rfl, rfl⟩
  · refine g_iconst dX7_lot_10 ?_
    exact g_iret hRet dX7_lot_11 rfl ⟨(-1), lo, (by unfold sp_lot; rw [if_pos (by omega)]; exact ⟨rfl, rfl⟩), rfl, rfl⟩

set_option maxHeartbeats 4000000 in
set_option maxRecDepth 100000 in
theorem c_X7_scales (E : Ev) (m0 : Nat) (ra : Nat → Nat) (mm : Int) (nf : Int) (ti : Int) (so : Int) (ta : Int) (go : Int) (sl : Int) (lo : Int) (cn : Int) (lx : Int) (ly : Int) (pm : Int) (pi : Int) (wg : Int → Int) (ru : Int → Int) (what : Int) (hcn : 0 ≤ cn ∧ cn ≤ 200) (hwg : ∀ k, (wg k = -4 ∨ 0 ≤ wg k) ∧ wg k ≤ 10000) (hru : (1 ≤ ru 0 ∧ ru 0 ≤ 12) ∧ (1 ≤ ru 1 ∧ ru 1 ≤ 20) ∧ (0 ≤ ru 2 ∧ ru 2 ≤ 10000) ∧ (0 ≤ ru 3 ∧ ru 3 ≤ 10000) ∧ (0 ≤ ru 4 ∧ ru 4 ≤ 1000) ∧ (0 ≤ ru 5 ∧ ru 5 ≤ 500)) (h_what : -2147483648 ≤ what ∧ what ≤ 2147483647) : MI yX7_scales wsX7_scales ({ frames := 1, cells := 0, slots := 0, locals := 22 } : Room) E [] 0 0 [.ref m0, .int (iI what)] [(m0, oo 7 (fMo ra mm nf ti so ta go sl lo cn lx ly pm pi)), (ra 28, aI E 200 wg), (ra 32, aI E 6 ru)] (fun r u => r = iI (f_scales cn wg ru what) ∧ u = [(m0, oo 7 (fMo ra mm nf ti so ta go sl lo cn lx ly pm pi)), (ra 28, aI E 200 wg), (ra 32, aI E 6 ru)]) := by
  refine MI.of (cc := cX7_scales) (maxL := 6) (own := RX7) (by decide) rfl rfl rfl (Nat.le_of_ble_eq_true rfl) [(0, .ref m0), (1, .int (iI what))] rfl ?_
  intro X hin2 hRet
  refine g_iload_n 1 dX7_scales_0 rfl rfl ?_
  refine g_iconst dX7_scales_1 ?_
  refine g_iconst dX7_scales_2 ?_
  refine g_callS_i (n := 3) (As := [.int (iI what), .int (iI 0), .int (iI 2)]) (wr := [(m0, oo 7 (fMo ra mm nf ti so ta go sl lo cn lx ly pm pi)), (ra 28, aI E 200 wg), (ra 32, aI E 6 ru)]) [] (c_X7_in E what 0 2 (by omega) (by omega) (by omega)) [] [0, 1, 2] gX7_scales_X7_in rfl ⟨rfl, by decide +kernel⟩ ⟨by decide, by decide⟩ rfl rfl rfl rfl rfl (by decide) rfl (by decide) (by decide) (fun _ h => absurd h List.not_mem_nil) dX7_scales_3 rfl (Nat.le_of_ble_eq_true rfl) ⟨by decide, by decide⟩ (fun r u p_1 => ?_)
  obtain ⟨rfl, rfl⟩ := p_1
  refine g_perm (ws1 := [(m0, oo 7 (fMo ra mm nf ti so ta go sl lo cn lx ly pm pi)), (ra 28, aI E 200 wg), (ra 32, aI E 6 ru)]) [0, 1, 2] rfl (by decide) rfl ?_
  refine g_if_ne_b (tgt := 11) dX7_scales_6 rfl (fun c_2 => ?_) (fun c_2 => ?_)
  · refine g_iconst dX7_scales_11 ?_
    refine g_istore_n (lv1 := [(2, .int (iI 0)), (0, .ref m0), (1, .int (iI what))]) dX7_scales_12 rfl (by decide) rfl ?_
    refine g_iconst dX7_scales_13 ?_
    refine g_istore_n (lv1 := [(3, .int (iI 0)), (2, .int (iI 0)), (0, .ref m0), (1, .int (iI what))]) dX7_scales_14 rfl (by decide) rfl ?_
    refine g_iconst dX7_scales_15 ?_
    refine g_istore (lv1 := [(4, .int (iI 0)), (3, .int (iI 0)), (2, .int (iI 0)), (0, .ref m0), (1, .int (iI what))]) dX7_scales_16 (by decide) rfl ?_
    refine g_iconst dX7_scales_18 ?_
    refine g_istore (lv1 := [(5, .int (iI 0)), (4, .int (iI 0)), (3, .int (iI 0)), (2, .int (iI 0)), (0, .ref m0), (1, .int (iI what))]) dX7_scales_19 (by decide) rfl ?_
    refine g_lv (lv1 := [(0, .ref m0), (1, .int (iI what)), (2, .int (iI 0)), (3, .int (iI 0)), (4, .int (iI 0)), (5, .int (iI 0))]) [4, 5, 3, 2, 1, 0] rfl ?_
    have L21 : ∀ (nn : Nat) (i : Int) (u : Int) (v : Int) (w : Int) (hi : 0 ≤ i ∧ i ≤ cn) (hu : u = sI (fun k => if ru 2 < wg k then wg k - ru 2 else 0) i) (hv : v = sI (fun k => if wg k ≠ -4 ∧ wg k < ru 2 - ru 4 then 1 else 0) i) (hw : w = sI (fun k => if wg k ≠ -4 then 1 else 0) i) (hm : cn - i < (nn : Int)), G X ({ frames := 1, cells := 0, slots := 0, locals := 22 } : Room) cX7_scales 6 RX7 wsX7_scales E [] 0 0 [(m0, oo 7 (fMo ra mm nf ti so ta go sl lo cn lx ly pm pi)), (ra 28, aI E 200 wg), (ra 32, aI E 6 ru)] [(0, .ref m0), (1, .int (iI what)), (2, .int (iI u)), (3, .int (iI v)), (4, .int (iI w)), (5, .int (iI i))] 21 [] := by
      intro nn
      induction nn with
      | zero => intro i u v w hi hu hv hw hm; exfalso; omega
      | succ nn ih21 =>
        intro i u v w hi hu hv hw hm
        refine g_iload 5 dX7_scales_21 rfl ?_
        refine g_aload_n 0 dX7_scales_23 rfl rfl ?_
        refine g_get (C := RX7) (T := TX7) (N := 43) 0 25 (fun _ h => List.mem_cons_of_mem _ (List.mem_append_right _ h)) (List.mem_of_getElem? (i := 1) rfl) rfl rfl (by decide) rfl rfl dX7_scales_24 ?_
        refine g_icmp_ge (tgt := 117) (by unfold R32; omega) (by unfold R32; omega) dX7_scales_27 rfl (fun c_3 => ?_) (fun c_3 => ?_)
        · refine g_iload_n 1 dX7_scales_117 rfl rfl ?_
          refine g_if_ne (tgt := 125) (by unfold R32; omega) dX7_scales_118 rfl (fun c_4 => ?_) (fun c_4 => ?_)
          · refine g_iload_n 2 dX7_scales_121 rfl rfl ?_
            refine g_goto (tgt := 136) dX7_scales_122 rfl ?_
            exact g_iret hRet dX7_scales_136 rfl ⟨(congrArg iI (by unfold f_scales; first | (rw [if_neg (by omega), if_neg (by omega), if_neg (by omega)]; done) | (have ei : i = cn := (by omega); subst ei; (repeat' split) <;> first | (exfalso; omega) | assumption))), rfl⟩
          · refine g_iload_n 1 dX7_scales_125 rfl rfl ?_
            refine g_iconst dX7_scales_126 ?_
            refine g_icmp_ne (tgt := 134) (by unfold R32; omega) (by unfold R32; omega) dX7_scales_127 rfl (fun c_5 => ?_) (fun c_5 => ?_)
            · refine g_iload_n 3 dX7_scales_130 rfl rfl ?_
              refine g_goto (tgt := 136) dX7_scales_131 rfl ?_
              exact g_iret hRet dX7_scales_136 rfl ⟨(congrArg iI (by unfold f_scales; first | (rw [if_neg (by omega), if_neg (by omega), if_neg (by omega)]; done) | (have ei : i = cn := (by omega); subst ei; (repeat' split) <;> first | (exfalso; omega) | assumption))), rfl⟩
            · refine g_iload 4 dX7_scales_134 rfl ?_
              exact g_iret hRet dX7_scales_136 rfl ⟨(congrArg iI (by unfold f_scales; first | (rw [if_neg (by omega), if_neg (by omega), if_neg (by omega)]; done) | (have ei : i = cn := (by omega); subst ei; (repeat' split) <;> first | (exfalso; omega) | assumption))), rfl⟩
        · refine g_aload_n 0 dX7_scales_30 rfl rfl ?_
          refine g_get (C := RX7) (T := TX7) (N := 43) 0 28 (fun _ h => List.mem_cons_of_mem _ (List.mem_append_right _ h)) (List.mem_of_getElem? (i := 2) rfl) rfl rfl (by decide) rfl rfl dX7_scales_31 ?_
          refine g_iload 5 dX7_scales_34 rfl ?_
          refine g_iald 1 dX7_scales_36 rfl (by decide) (by omega) (by omega) ?_
          have q_6 := hwg i
          refine g_if_lt (tgt := 111) (by unfold R32; omega) dX7_scales_37 rfl (fun c_7 => ?_) (fun c_7 => ?_)
          · refine g_iinc (lv1 := [(5, .int (iI (i + 1))), (0, .ref m0), (1, .int (iI what)), (2, .int (iI u)), (3, .int (iI v)), (4, .int (iI w))]) 5 dX7_scales_111 rfl (by decide) rfl ?_
            refine g_goto (tgt := 21) dX7_scales_114 rfl ?_
            refine g_lv (lv1 := [(0, .ref m0), (1, .int (iI what)), (2, .int (iI u)), (3, .int (iI v)), (4, .int (iI w)), (5, .int (iI (i + 1)))]) [1, 2, 3, 4, 5, 0] rfl ?_
            exact ih21 (i + 1) u v w (by omega) (by rw [sI_s _ (by omega), ← hu]; (try dsimp only); split <;> omega) (by rw [sI_s _ (by omega), ← hv]; (try dsimp only); split <;> omega) (by rw [sI_s _ (by omega), ← hw]; (try dsimp only); split <;> omega) (by omega)
          · refine g_iload_n 2 dX7_scales_40 rfl rfl ?_
            refine g_aload_n 0 dX7_scales_41 rfl rfl ?_
            refine g_get (C := RX7) (T := TX7) (N := 43) 0 28 (fun _ h => List.mem_cons_of_mem _ (List.mem_append_right _ h)) (List.mem_of_getElem? (i := 2) rfl) rfl rfl (by decide) rfl rfl dX7_scales_42 ?_
            refine g_iload 5 dX7_scales_45 rfl ?_
            refine g_iald 1 dX7_scales_47 rfl (by decide) (by omega) (by omega) ?_
            have q_8 := hwg i
            refine g_aload_n 0 dX7_scales_48 rfl rfl ?_
            refine g_get (C := RX7) (T := TX7) (N := 43) 0 32 (fun _ h => List.mem_cons_of_mem _ (List.mem_append_right _ h)) (List.mem_of_getElem? (i := 3) rfl) rfl rfl (by decide) rfl rfl dX7_scales_49 ?_
            refine g_iconst dX7_scales_52 ?_
            refine g_iald 2 dX7_scales_53 rfl (by decide) (by omega) (by omega) ?_
            refine g_icmp_le (tgt := 74) (by unfold R32; omega) (by unfold R32; omega) dX7_scales_54 rfl (fun c_9 => ?_) (fun c_9 => ?_)
            · refine g_iconst dX7_scales_74 ?_
              refine g_iadd dX7_scales_75 ?_
              refine g_istore_n (lv1 := [(2, .int (iI (u + 0))), (0, .ref m0), (1, .int (iI what)), (3, .int (iI v)), (4, .int (iI w)), (5, .int (iI i))]) dX7_scales_76 rfl (by decide) rfl ?_
              refine g_iload_n 3 dX7_scales_77 rfl rfl ?_
              refine g_aload_n 1 dX7_scales_78 rfl rfl ?_
              refine g_get (C := RX7) (T := TX7) (N := 43) 0 28 (fun _ h => List.mem_cons_of_mem _ (List.mem_append_right _ h)) (List.mem_of_getElem? (i := 2) rfl) rfl rfl (by decide) rfl rfl dX7_scales_79 ?_
              refine g_iload 5 dX7_scales_82 rfl ?_
              refine g_iald 1 dX7_scales_84 rfl (by decide) (by omega) (by omega) ?_
              have q_10 := hwg i
              refine g_aload_n 1 dX7_scales_85 rfl rfl ?_
              refine g_get (C := RX7) (T := TX7) (N := 43) 0 32 (fun _ h => List.mem_cons_of_mem _ (List.mem_append_right _ h)) (List.mem_of_getElem? (i := 3) rfl) rfl rfl (by decide) rfl rfl dX7_scales_86 ?_
              refine g_iconst dX7_scales_89 ?_
              refine g_iald 2 dX7_scales_90 rfl (by decide) (by omega) (by omega) ?_
              refine g_aload_n 1 dX7_scales_91 rfl rfl ?_
              refine g_get (C := RX7) (T := TX7) (N := 43) 0 32 (fun _ h => List.mem_cons_of_mem _ (List.mem_append_right _ h)) (List.mem_of_getElem? (i := 3) rfl) rfl rfl (by decide) rfl rfl dX7_scales_92 ?_
              refine g_iconst dX7_scales_95 ?_
              refine g_iald 2 dX7_scales_96 rfl (by decide) (by omega) (by omega) ?_
              refine g_isub dX7_scales_97 ?_
              refine g_icmp_ge (tgt := 105) (by unfold R32; omega) (by unfold R32; omega) dX7_scales_98 rfl (fun c_11 => ?_) (fun c_11 => ?_)
              · refine g_iconst dX7_scales_105 ?_
                refine g_iadd dX7_scales_106 ?_
                refine g_istore_n (lv1 := [(3, .int (iI (v + 0))), (2, .int (iI (u + 0))), (0, .ref m0), (1, .int (iI what)), (4, .int (iI w)), (5, .int (iI i))]) dX7_scales_107 rfl (by decide) rfl ?_
                refine g_iinc (lv1 := [(4, .int (iI (w + 1))), (3, .int (iI (v + 0))), (2, .int (iI (u + 0))), (0, .ref m0), (1, .int (iI what)), (5, .int (iI i))]) 4 dX7_scales_108 rfl (by decide) rfl ?_
                refine g_iinc (lv1 := [(5, .int (iI (i + 1))), (4, .int (iI (w + 1))), (3, .int (iI (v + 0))), (2, .int (iI (u + 0))), (0, .ref m0), (1, .int (iI what))]) 5 dX7_scales_111 rfl (by decide) rfl ?_
                refine g_goto (tgt := 21) dX7_scales_114 rfl ?_
                refine g_lv (lv1 := [(0, .ref m0), (1, .int (iI what)), (2, .int (iI (u + 0))), (3, .int (iI (v + 0))), (4, .int (iI (w + 1))), (5, .int (iI (i + 1)))]) [4, 5, 3, 2, 1, 0] rfl ?_
                exact ih21 (i + 1) (u + 0) (v + 0) (w + 1) (by omega) (by rw [sI_s _ (by omega), ← hu]; (try dsimp only); split <;> omega) (by rw [sI_s _ (by omega), ← hv]; (try dsimp only); split <;> omega) (by rw [sI_s _ (by omega), ← hw]; (try dsimp only); split <;> omega) (by omega)
              · refine g_iconst dX7_scales_101 ?_
                refine g_goto (tgt := 106) dX7_scales_102 rfl ?_
                refine g_iadd dX7_scales_106 ?_
                refine g_istore_n (lv1 := [(3, .int (iI (v + 1))), (2, .int (iI (u + 0))), (0, .ref m0), (1, .int (iI what)), (4, .int (iI w)), (5, .int (iI i))]) dX7_scales_107 rfl (by decide) rfl ?_
                refine g_iinc (lv1 := [(4, .int (iI (w + 1))), (3, .int (iI (v + 1))), (2, .int (iI (u + 0))), (0, .ref m0), (1, .int (iI what)), (5, .int (iI i))]) 4 dX7_scales_108 rfl (by decide) rfl ?_
                refine g_iinc (lv1 := [(5, .int (iI (i + 1))), (4, .int (iI (w + 1))), (3, .int (iI (v + 1))), (2, .int (iI (u + 0))), (0, .ref m0), (1, .int (iI what))]) 5 dX7_scales_111 rfl (by decide) rfl ?_
                refine g_goto (tgt := 21) dX7_scales_114 rfl ?_
                refine g_lv (lv1 := [(0, .ref m0), (1, .int (iI what)), (2, .int (iI (u + 0))), (3, .int (iI (v + 1))), (4, .int (iI (w + 1))), (5, .int (iI (i + 1)))]) [4, 5, 3, 2, 1, 0] rfl ?_
                exact ih21 (i + 1) (u + 0) (v + 1) (w + 1) (by omega) (by rw [sI_s _ (by omega), ← hu]; (try dsimp only); split <;> omega) (by rw [sI_s _ (by omega), ← hv]; (try dsimp only); split <;> omega) (by rw [sI_s _ (by omega), ← hw]; (try dsimp only); split <;> omega) (by omega)
            · refine g_aload_n 0 dX7_scales_57 rfl rfl ?_
              refine g_get (C := RX7) (T := TX7) (N := 43) 0 28 (fun _ h => List.mem_cons_of_mem _ (List.mem_append_right _ h)) (List.mem_of_getElem? (i := 2) rfl) rfl rfl (by decide) rfl rfl dX7_scales_58 ?_
              refine g_iload 5 dX7_scales_61 rfl ?_
              refine g_iald 1 dX7_scales_63 rfl (by decide) (by omega) (by omega) ?_
              have q_12 := hwg i
              refine g_aload_n 0 dX7_scales_64 rfl rfl ?_
              refine g_get (C := RX7) (T := TX7) (N := 43) 0 32 (fun _ h => List.mem_cons_of_mem _ (List.mem_append_right _ h)) (List.mem_of_getElem? (i := 3) rfl) rfl rfl (by decide) rfl rfl dX7_scales_65 ?_
              refine g_iconst dX7_scales_68 ?_
              refine g_iald 2 dX7_scales_69 rfl (by decide) (by omega) (by omega) ?_
              refine g_isub dX7_scales_70 ?_
              refine g_goto (tgt := 75) dX7_scales_71 rfl ?_
              refine g_iadd dX7_scales_75 ?_
              refine g_istore_n (lv1 := [(2, .int (iI (u + ((wg i) - (ru 2))))), (0, .ref m0), (1, .int (iI what)), (3, .int (iI v)), (4, .int (iI w)), (5, .int (iI i))]) dX7_scales_76 rfl (by decide) rfl ?_
              refine g_iload_n 3 dX7_scales_77 rfl rfl ?_
              refine g_aload_n 1 dX7_scales_78 rfl rfl ?_
              refine g_get (C := RX7) (T := TX7) (N := 43) 0 28 (fun _ h => List.mem_cons_of_mem _ (List.mem_append_right _ h)) (List.mem_of_getElem? (i := 2) rfl) rfl rfl (by decide) rfl rfl dX7_scales_79 ?_
              refine g_iload 5 dX7_scales_82 rfl ?_
              refine g_iald 1 dX7_scales_84 rfl (by decide) (by omega) (by omega) ?_
              have q_13 := hwg i
              refine g_aload_n 1 dX7_scales_85 rfl rfl ?_
              refine g_get (C := RX7) (T := TX7) (N := 43) 0 32 (fun _ h => List.mem_cons_of_mem _ (List.mem_append_right _ h)) (List.mem_of_getElem? (i := 3) rfl) rfl rfl (by decide) rfl rfl dX7_scales_86 ?_
              refine g_iconst dX7_scales_89 ?_
              refine g_iald 2 dX7_scales_90 rfl (by decide) (by omega) (by omega) ?_
              refine g_aload_n 1 dX7_scales_91 rfl rfl ?_
              refine g_get (C := RX7) (T := TX7) (N := 43) 0 32 (fun _ h => List.mem_cons_of_mem _ (List.mem_append_right _ h)) (List.mem_of_getElem? (i := 3) rfl) rfl rfl (by decide) rfl rfl dX7_scales_92 ?_
              refine g_iconst dX7_scales_95 ?_
              refine g_iald 2 dX7_scales_96 rfl (by decide) (by omega) (by omega) ?_
              refine g_isub dX7_scales_97 ?_
              refine g_icmp_ge (tgt := 105) (by unfold R32; omega) (by unfold R32; omega) dX7_scales_98 rfl (fun c_14 => ?_) (fun c_14 => ?_)
              · refine g_iconst dX7_scales_105 ?_
                refine g_iadd dX7_scales_106 ?_
                refine g_istore_n (lv1 := [(3, .int (iI (v + 0))), (2, .int (iI (u + ((wg i) - (ru 2))))), (0, .ref m0), (1, .int (iI what)), (4, .int (iI w)), (5, .int (iI i))]) dX7_scales_107 rfl (by decide) rfl ?_
                refine g_iinc (lv1 := [(4, .int (iI (w + 1))), (3, .int (iI (v + 0))), (2, .int (iI (u + ((wg i) - (ru 2))))), (0, .ref m0), (1, .int (iI what)), (5, .int (iI i))]) 4 dX7_scales_108 rfl (by decide) rfl ?_
                refine g_iinc (lv1 := [(5, .int (iI (i + 1))), (4, .int (iI (w + 1))), (3, .int (iI (v + 0))), (2, .int (iI (u + ((wg i) - (ru 2))))), (0, .ref m0), (1, .int (iI what))]) 5 dX7_scales_111 rfl (by decide) rfl ?_
                refine g_goto (tgt := 21) dX7_scales_114 rfl ?_
                refine g_lv (lv1 := [(0, .ref m0), (1, .int (iI what)), (2, .int (iI (u + ((wg i) - (ru 2))))), (3, .int (iI (v + 0))), (4, .int (iI (w + 1))), (5, .int (iI (i + 1)))]) [4, 5, 3, 2, 1, 0] rfl ?_
                exact ih21 (i + 1) (u + ((wg i) - (ru 2))) (v + 0) (w + 1) (by omega) (by rw [sI_s _ (by omega), ← hu]; (try dsimp only); split <;> omega) (by rw [sI_s _ (by omega), ← hv]; (try dsimp only); split <;> omega) (by rw [sI_s _ (by omega), ← hw]; (try dsimp only); split <;> omega) (by omega)
              · refine g_iconst dX7_scales_101 ?_
                refine g_goto (tgt := 106) dX7_scales_102 rfl ?_
                refine g_iadd dX7_scales_106 ?_
                refine g_istore_n (lv1 := [(3, .int (iI (v + 1))), (2, .int (iI (u + ((wg i) - (ru 2))))), (0, .ref m0), (1, .int (iI what)), (4, .int (iI w)), (5, .int (iI i))]) dX7_scales_107 rfl (by decide) rfl ?_
                refine g_iinc (lv1 := [(4, .int (iI (w + 1))), (3, .int (iI (v + 1))), (2, .int (iI (u + ((wg i) - (ru 2))))), (0, .ref m0), (1, .int (iI what)), (5, .int (iI i))]) 4 dX7_scales_108 rfl (by decide) rfl ?_
                refine g_iinc (lv1 := [(5, .int (iI (i + 1))), (4, .int (iI (w + 1))), (3, .int (iI (v + 1))), (2, .int (iI (u + ((wg i) - (ru 2))))), (0, .ref m0), (1, .int (iI what))]) 5 dX7_scales_111 rfl (by decide) rfl ?_
                refine g_goto (tgt := 21) dX7_scales_114 rfl ?_
                refine g_lv (lv1 := [(0, .ref m0), (1, .int (iI what)), (2, .int (iI (u + ((wg i) - (ru 2))))), (3, .int (iI (v + 1))), (4, .int (iI (w + 1))), (5, .int (iI (i + 1)))]) [4, 5, 3, 2, 1, 0] rfl ?_
                exact ih21 (i + 1) (u + ((wg i) - (ru 2))) (v + 1) (w + 1) (by omega) (by rw [sI_s _ (by omega), ← hu]; (try dsimp only); split <;> omega) (by rw [sI_s _ (by omega), ← hv]; (try dsimp only); split <;> omega) (by rw [sI_s _ (by omega), ← hw]; (try dsimp only); split <;> omega) (by omega)
    exact L21 _ 0 0 0 0 (by omega) (by rfl) (by rfl) (by rfl) (lt_nn _)
  · refine g_iconst dX7_scales_9 ?_
    exact g_iret hRet dX7_scales_10 rfl ⟨(congrArg iI (by unfold f_scales; first | (rw [if_neg (by omega), if_neg (by omega), if_neg (by omega)]; done) | (have ei : i = cn := (by omega); subst ei; (repeat' split) <;> first | (exfalso; omega) | assumption))), rfl⟩

end REF1
