section RLAY
theorem kI_t {b : Int} {c : Int → Int} {k v u : Int} (hk : 1 ≤ k) (H : kI b c k v) (hu : u = max v (c k)) : kI b c (k + 1) u := by rw [hu]; exact kI_s hk H
theorem wI_t {M : Int → Int → Int} {n w h v u x1 x2 y1 y2 : Int} (hn : 1 ≤ n) (hw : w ≤ 12) (hh : h ≤ 12) (hv : vN n w h x1 x2 y1 y2) (H : wI M n w h (4096 * x1 + 256 * x2 + 16 * y1 + y2) v) (hu : u = max v (cP M w h x1 x2 y1 y2)) : wI M n w h (4096 * x1 + 256 * x2 + 16 * y1 + (y2 + 1)) u := by rw [hu]; exact wI_s hn hw hh hv H
theorem isB_all {a b v v2 w h x1 : Int} {M : Int → Int → Int} (H : isS a b M w h v) (hx : w ≤ x1) (K : aK 1 w h (4096 * x1) (fun x1 x2 y1 y2 => cP M w h x1 x2 y1 y2 ≤ v2)) (h1 : v ≤ v2) (h2 : v2 = v ∨ ∃ x1 x2 y1 y2, vN 1 w h x1 x2 y1 y2 ∧ v2 = cP M w h x1 x2 y1 y2) (hw : w ≤ 12) (hh : h ≤ 12) : isB a b M w h v2 := by
  refine ⟨⟨by have := H.1.1; omega, fun k k1 k2 => by have := H.1.2.1 k k1 k2; omega, fun k k1 k2 => by have := H.1.2.2 k k1 k2; omega, fun x1 x2 y1 y2 hv => aK_e1 (by omega) hw hh (by omega) K hv⟩, ?_⟩
  rcases h2 with h2 | h2
  · subst h2
    rcases H.2 with d | d | d
    · exact Or.inl d
    · exact Or.inr (Or.inl d)
    · exact Or.inr (Or.inr (Or.inl d))
  · exact Or.inr (Or.inr (Or.inr h2))
/-- the reference's running best over the pinwheels, from v0 on -/
def wJ (M : Int → Int → Int) (w h K v0 v : Int) : Prop := aK 1 w h K (fun x1 x2 y1 y2 => cP M w h x1 x2 y1 y2 ≤ v) ∧ v0 ≤ v ∧ (v = v0 ∨ ∃ x1 x2 y1 y2, vN 1 w h x1 x2 y1 y2 ∧ v = cP M w h x1 x2 y1 y2)
theorem wJ_t {M : Int → Int → Int} {w h v0 v u x1 x2 y1 y2 : Int} (hw : w ≤ 12) (hh : h ≤ 12) (hv : vN 1 w h x1 x2 y1 y2) (H : wJ M w h (4096 * x1 + 256 * x2 + 16 * y1 + y2) v0 v) (hu : u = max v (cP M w h x1 x2 y1 y2)) : wJ M w h (4096 * x1 + 256 * x2 + 16 * y1 + (y2 + 1)) v0 u := by
  subst hu
  refine ⟨aK_s (by omega) hw hh (by unfold vN at hv; omega) H.1 (fun a b c d q => by omega) (by omega), by have := H.2.1; omega, ?_⟩
  rcases Int.lt_or_le v (cP M w h x1 x2 y1 y2) with q | q
  · exact Or.inr ⟨x1, x2, y1, y2, hv, by omega⟩
  · rw [show max v (cP M w h x1 x2 y1 y2) = v by omega]; exact H.2.2

set_option maxHeartbeats 4000000 in
set_option maxRecDepth 100000 in
theorem c_X7_mostOf (E : Ev) (m0 : Nat) (ra : Nat → Nat) (mm : Int) (nf : Int) (ti : Int) (so : Int) (ta : Int) (go : Int) (sl : Int) (lo : Int) (cn : Int) (lx : Int) (ly : Int) (pm : Int) (pi : Int) (mo : Int → Int) (w : Int) (h : Int) (hw : 0 ≤ w ∧ w ≤ 12) (hh : 0 ≤ h ∧ h ≤ 12) : MI yX7_mostOf wsX7_mostOf ({ frames := 0, cells := 0, slots := 0, locals := 0 } : Room) E [] 0 0 [.ref m0, .int (iI w), .int (iI h)] [(m0, oo 7 (fMo ra mm nf ti so ta go sl lo cn lx ly pm pi)), (ra 37, aI E 169 mo)] (fun r u => r = iI (tb mo w h) ∧ u = [(m0, oo 7 (fMo ra mm nf ti so ta go sl lo cn lx ly pm pi)), (ra 37, aI E 169 mo)]) := by
  refine MI.of (cc := cX7_mostOf) (maxL := 3) (own := RX7) (by decide) rfl rfl rfl (Nat.le_of_ble_eq_true rfl) [(0, .ref m0), (1, .int (iI w)), (2, .int (iI h))] rfl ?_
  intro X hin2 hRet
  refine g_aload_n 0 dX7_mostOf_0 rfl rfl ?_
  refine g_get (C := RX7) (T := TX7) (N := 43) 0 37 (fun _ h => List.mem_cons_of_mem _ (List.mem_append_right _ h)) (List.mem_of_getElem? (i := 1) rfl) rfl rfl (by decide) rfl rfl dX7_mostOf_1 ?_
  refine g_bipush dX7_mostOf_4 rfl ?_
  refine g_iload_n 1 dX7_mostOf_6 rfl rfl ?_
  refine g_imul dX7_mostOf_7 ?_
  refine g_iload_n 2 dX7_mostOf_8 rfl rfl ?_
  refine g_iadd dX7_mostOf_9 ?_
  refine g_iald 1 dX7_mostOf_10 rfl (by decide) (by omega) (by omega) ?_
  exact g_iret hRet dX7_mostOf_11 rfl ⟨(congrArg iI (by rfl)), rfl⟩

set_option maxHeartbeats 4000000 in
set_option maxRecDepth 100000 in
theorem c_X7_wheel (E : Ev) (m0 : Nat) (ra : Nat → Nat) (mm : Int) (nf : Int) (ti : Int) (so : Int) (ta : Int) (go : Int) (sl : Int) (lo : Int) (cn : Int) (lx : Int) (ly : Int) (pm : Int) (pi : Int) (mo : Int → Int) (w : Int) (h : Int) (x1 : Int) (x2 : Int) (y1 : Int) (y2 : Int) (hw : 1 ≤ w ∧ w ≤ 12) (hh : 1 ≤ h ∧ h ≤ 12) (hv : vN 1 w h x1 x2 y1 y2) : MI yX7_wheel wsX7_wheel ({ frames := 1, cells := 0, slots := 0, locals := 22 } : Room) E [] 0 0 [.ref m0, .int (iI w), .int (iI h), .int (iI x1), .int (iI x2), .int (iI y1), .int (iI y2)] [(m0, oo 7 (fMo ra mm nf ti so ta go sl lo cn lx ly pm pi)), (ra 37, aI E 169 mo)] (fun r u => r = iI (cP (tb mo) w h x1 x2 y1 y2) ∧ u = [(m0, oo 7 (fMo ra mm nf ti so ta go sl lo cn lx ly pm pi)), (ra 37, aI E 169 mo)]) := by
  refine MI.of (cc := cX7_wheel) (maxL := 7) (own := RX7) (by decide) rfl rfl rfl (Nat.le_of_ble_eq_true rfl) [(0, .ref m0), (1, .int (iI w)), (2, .int (iI h)), (3, .int (iI x1)), (4, .int (iI x2)), (5, .int (iI y1)), (6, .int (iI y2))] rfl ?_
  intro X hin2 hRet
  unfold vN at hv
  refine g_aload_n 0 dX7_wheel_0 rfl rfl ?_
  refine g_iload_n 3 dX7_wheel_1 rfl rfl ?_
  refine g_iload 6 dX7_wheel_2 rfl ?_
  refine g_callV_i (n := 2) (As := [.int (iI x1), .int (iI y2)]) (wr := []) (C := RX7) [] (c_X7_mostOf E m0 ra mm nf ti so ta go sl lo cn lx ly pm pi mo x1 y2 (by omega) (by omega)) [0, 1] [] 0 rfl rfl gX7_wheel_X7_mostOf rfl ⟨rfl, by decide +kernel⟩ ⟨by decide, by decide⟩ rfl rfl rfl rfl rfl (by decide) rfl (by decide) (by decide) (fun _ h => absurd h List.not_mem_nil) dX7_wheel_4 rfl (Nat.le_of_ble_eq_true rfl) ⟨by decide, by decide⟩ (fun r u p_1 => ?_)
  obtain ⟨rfl, rfl⟩ := p_1
  refine g_aload_n 0 dX7_wheel_7 rfl rfl ?_
  refine g_iload_n 1 dX7_wheel_8 rfl rfl ?_
  refine g_iload_n 3 dX7_wheel_9 rfl rfl ?_
  refine g_isub dX7_wheel_10 ?_
  refine g_iload 5 dX7_wheel_11 rfl ?_
  refine g_callV_i (n := 2) (As := [.int (iI (w - x1)), .int (iI y1)]) (wr := []) (C := RX7) [.int (iI (tb mo x1 y2))] (c_X7_mostOf E m0 ra mm nf ti so ta go sl lo cn lx ly pm pi mo (w - x1) y1 (by omega) (by omega)) [0, 1] [] 0 rfl rfl gX7_wheel_X7_mostOf rfl ⟨rfl, by decide +kernel⟩ ⟨by decide, by decide⟩ rfl rfl rfl rfl rfl (by decide) rfl (by decide) (by decide) (fun _ h => absurd h List.not_mem_nil) dX7_wheel_13 rfl (Nat.le_of_ble_eq_true rfl) ⟨by decide, by decide⟩ (fun r u p_2 => ?_)
  obtain ⟨rfl, rfl⟩ := p_2
  refine g_iadd dX7_wheel_16 ?_
  refine g_aload_n 0 dX7_wheel_17 rfl rfl ?_
  refine g_iload_n 1 dX7_wheel_18 rfl rfl ?_
  refine g_iload 4 dX7_wheel_19 rfl ?_
  refine g_isub dX7_wheel_21 ?_
  refine g_iload_n 2 dX7_wheel_22 rfl rfl ?_
  refine g_iload 5 dX7_wheel_23 rfl ?_
  refine g_isub dX7_wheel_25 ?_
  refine g_callV_i (n := 2) (As := [.int (iI (w - x2)), .int (iI (h - y1))]) (wr := []) (C := RX7) [.int (iI ((tb mo x1 y2) + (tb mo (w - x1) y1)))] (c_X7_mostOf E m0 ra mm nf ti so ta go sl lo cn lx ly pm pi mo (w - x2) (h - y1) (by omega) (by omega)) [0, 1] [] 0 rfl rfl gX7_wheel_X7_mostOf rfl ⟨rfl, by decide +kernel⟩ ⟨by decide, by decide⟩ rfl rfl rfl rfl rfl (by decide) rfl (by decide) (by decide) (fun _ h => absurd h List.not_mem_nil) dX7_wheel_26 rfl (Nat.le_of_ble_eq_true rfl) ⟨by decide, by decide⟩ (fun r u p_3 => ?_)
  obtain ⟨rfl, rfl⟩ := p_3
  refine g_iadd dX7_wheel_29 ?_
  refine g_aload_n 0 dX7_wheel_30 rfl rfl ?_
  refine g_iload 4 dX7_wheel_31 rfl ?_
  refine g_iload_n 2 dX7_wheel_33 rfl rfl ?_
  refine g_iload 6 dX7_wheel_34 rfl ?_
  refine g_isub dX7_wheel_36 ?_
  refine g_callV_i (n := 2) (As := [.int (iI x2), .int (iI (h - y2))]) (wr := []) (C := RX7) [.int (iI (((tb mo x1 y2) + (tb mo (w - x1) y1)) + (tb mo (w - x2) (h - y1))))] (c_X7_mostOf E m0 ra mm nf ti so ta go sl lo cn lx ly pm pi mo x2 (h - y2) (by omega) (by omega)) [0, 1] [] 0 rfl rfl gX7_wheel_X7_mostOf rfl ⟨rfl, by decide +kernel⟩ ⟨by decide, by decide⟩ rfl rfl rfl rfl rfl (by decide) rfl (by decide) (by decide) (fun _ h => absurd h List.not_mem_nil) dX7_wheel_37 rfl (Nat.le_of_ble_eq_true rfl) ⟨by decide, by decide⟩ (fun r u p_4 => ?_)
  obtain ⟨rfl, rfl⟩ := p_4
  refine g_iadd dX7_wheel_40 ?_
  refine g_aload_n 0 dX7_wheel_41 rfl rfl ?_
  refine g_iload 4 dX7_wheel_42 rfl ?_
  refine g_iload_n 3 dX7_wheel_44 rfl rfl ?_
  refine g_isub dX7_wheel_45 ?_
  refine g_iload 6 dX7_wheel_46 rfl ?_
  refine g_iload 5 dX7_wheel_48 rfl ?_
  refine g_isub dX7_wheel_50 ?_
  refine g_callV_i (n := 2) (As := [.int (iI (x2 - x1)), .int (iI (y2 - y1))]) (wr := []) (C := RX7) [.int (iI ((((tb mo x1 y2) + (tb mo (w - x1) y1)) + (tb mo (w - x2) (h - y1))) + (tb mo x2 (h - y2))))] (c_X7_mostOf E m0 ra mm nf ti so ta go sl lo cn lx ly pm pi mo (x2 - x1) (y2 - y1) (by omega) (by omega)) [0, 1] [] 0 rfl rfl gX7_wheel_X7_mostOf rfl ⟨rfl, by decide +kernel⟩ ⟨by decide, by decide⟩ rfl rfl rfl rfl rfl (by decide) rfl (by decide) (by decide) (fun _ h => absurd h List.not_mem_nil) dX7_wheel_51 rfl (Nat.le_of_ble_eq_true rfl) ⟨by decide, by decide⟩ (fun r u p_5 => ?_)
  obtain ⟨rfl, rfl⟩ := p_5
  refine g_iadd dX7_wheel_54 ?_
  exact g_iret hRet dX7_wheel_55 rfl ⟨(congrArg iI (by rfl)), rfl⟩

set_option maxHeartbeats 4000000 in
set_option maxRecDepth 100000 in
theorem c_X7_best (E : Ev) (m0 : Nat) (ra : Nat → Nat) (mm : Int) (nf : Int) (ti : Int) (so : Int) (ta : Int) (go : Int) (sl : Int) (lo : Int) (cn : Int) (lx : Int) (ly : Int) (pm : Int) (pi : Int) (mo : Int → Int) (w : Int) (h : Int) (qa : Int) (qb : Int) (hw : 1 ≤ w ∧ w ≤ 12) (hh : 1 ≤ h ∧ h ≤ 12) (hq : (1 ≤ qa ∧ qa ≤ 12) ∧ 1 ≤ qb ∧ qb ≤ 12) (hmo : ∀ k, 0 ≤ mo k ∧ mo k ≤ 144) : MI yX7_best wsX7_best ({ frames := 2, cells := 0, slots := 0, locals := 48 } : Room) E [] 0 0 [.ref m0, .int (iI w), .int (iI h), .int (iI qa), .int (iI qb)] [(m0, oo 7 (fMo ra mm nf ti so ta go sl lo cn lx ly pm pi)), (ra 37, aI E 169 mo)] (fun r u => ∃ (v : Int), isB qa qb (tb mo) w h v ∧ r = iI v ∧ u = [(m0, oo 7 (fMo ra mm nf ti so ta go sl lo cn lx ly pm pi)), (ra 37, aI E 169 mo)]) := by
  refine MI.of (cc := cX7_best) (maxL := 11) (own := RX7) (by decide) rfl rfl rfl (Nat.le_of_ble_eq_true rfl) [(0, .ref m0), (1, .int (iI w)), (2, .int (iI h)), (3, .int (iI qa)), (4, .int (iI qb))] rfl ?_
  intro X hin2 hRet
  refine g_iload_n 3 dX7_best_0 rfl rfl ?_
  refine g_iload_n 1 dX7_best_1 rfl rfl ?_
  refine g_icmp_gt (tgt := 11) (by unfold R32; omega) (by unfold R32; omega) dX7_best_2 rfl (fun c_1 => ?_) (fun c_1 => ?_)
  · refine g_iload 4 dX7_best_11 rfl ?_
    refine g_iload_n 1 dX7_best_13 rfl rfl ?_
    refine g_icmp_gt (tgt := 26) (by unfold R32; omega) (by unfold R32; omega) dX7_best_14 rfl (fun c_2 => ?_) (fun c_2 => ?_)
    · refine g_iconst dX7_best_26 ?_
      have hbs := bs_01 qa qb w h
      refine g_top (y := iI (bs qa qb w h)) (congrArg iI (by unfold bs; first | (rw [if_pos (by omega)]; done) | (rw [if_neg (by omega)]; done))) ?_
      refine g_istore (lv1 := [(5, .int (iI (bs qa qb w h))), (0, .ref m0), (1, .int (iI w)), (2, .int (iI h)), (3, .int (iI qa)), (4, .int (iI qb))]) dX7_best_27 (by decide) rfl ?_
      refine g_iconst dX7_best_29 ?_
      refine g_istore (lv1 := [(6, .int (iI 1)), (5, .int (iI (bs qa qb w h))), (0, .ref m0), (1, .int (iI w)), (2, .int (iI h)), (3, .int (iI qa)), (4, .int (iI qb))]) dX7_best_30 (by decide) rfl ?_
      refine g_lv (lv1 := [(0, .ref m0), (1, .int (iI w)), (2, .int (iI h)), (3, .int (iI qa)), (4, .int (iI qb)), (5, .int (iI (bs qa qb w h))), (6, .int (iI 1))]) [2, 3, 4, 5, 6, 1, 0] rfl ?_
      have L32 : ∀ (nn : Nat) (k : Int) (v1 : Int) (hk : 1 ≤ k ∧ k ≤ w) (hv1 : 0 ≤ v1 ∧ v1 ≤ 720) (hK1 : kI (bs qa qb w h) (cU (tb mo) w h) k v1) (hm : w - k < (nn : Int)), G X ({ frames := 2, cells := 0, slots := 0, locals := 48 } : Room) cX7_best 11 RX7 wsX7_best E [] 0 0 [(m0, oo 7 (fMo ra mm nf ti so ta go sl lo cn lx ly pm pi)), (ra 37, aI E 169 mo)] [(0, .ref m0), (1, .int (iI w)), (2, .int (iI h)), (3, .int (iI qa)), (4, .int (iI qb)), (5, .int (iI v1)), (6, .int (iI k))] 32 [] := by
        intro nn
        induction nn with
        | zero => intro k v1 hk hv1 hK1 hm; exfalso; omega
        | succ nn ih32 =>
          intro k v1 hk hv1 hK1 hm
          refine g_iload 6 dX7_best_32 rfl ?_
          refine g_iload_n 1 dX7_best_34 rfl rfl ?_
          refine g_icmp_ge (tgt := 79) (by unfold R32; omega) (by unfold R32; omega) dX7_best_35 rfl (fun c_3 => ?_) (fun c_3 => ?_)
          · refine g_iconst dX7_best_79 ?_
            refine g_istore (lv1 := [(6, .int (iI 1)), (0, .ref m0), (1, .int (iI w)), (2, .int (iI h)), (3, .int (iI qa)), (4, .int (iI qb)), (5, .int (iI v1))]) dX7_best_80 (by decide) rfl ?_
            refine g_lv (lv1 := [(0, .ref m0), (1, .int (iI w)), (2, .int (iI h)), (3, .int (iI qa)), (4, .int (iI qb)), (5, .int (iI v1)), (6, .int (iI 1))]) [1, 2, 3, 4, 5, 6, 0] rfl ?_
            have L82 : ∀ (nn : Nat) (j : Int) (v2 : Int) (hj : 1 ≤ j ∧ j ≤ h) (hv2 : 0 ≤ v2 ∧ v2 ≤ 720) (hK2 : kI v1 (cL (tb mo) w h) j v2) (hm : h - j < (nn : Int)), G X ({ frames := 2, cells := 0, slots := 0, locals := 48 } : Room) cX7_best 11 RX7 wsX7_best E [] 0 0 [(m0, oo 7 (fMo ra mm nf ti so ta go sl lo cn lx ly pm pi)), (ra 37, aI E 169 mo)] [(0, .ref m0), (1, .int (iI w)), (2, .int (iI h)), (3, .int (iI qa)), (4, .int (iI qb)), (5, .int (iI v2)), (6, .int (iI j))] 82 [] := by
              intro nn
              induction nn with
              | zero => intro j v2 hj hv2 hK2 hm; exfalso; omega
              | succ nn ih82 =>
                intro j v2 hj hv2 hK2 hm
                refine g_iload 6 dX7_best_82 rfl ?_
                refine g_iload_n 2 dX7_best_84 rfl rfl ?_
                refine g_icmp_ge (tgt := 129) (by unfold R32; omega) (by unfold R32; omega) dX7_best_85 rfl (fun c_4 => ?_) (fun c_4 => ?_)
                · refine g_iconst dX7_best_129 ?_
                  refine g_istore (lv1 := [(6, .int (iI 1)), (0, .ref m0), (1, .int (iI w)), (2, .int (iI h)), (3, .int (iI qa)), (4, .int (iI qb)), (5, .int (iI v2))]) dX7_best_130 (by decide) rfl ?_
                  refine g_lv (lv1 := [(0, .ref m0), (1, .int (iI w)), (2, .int (iI h)), (3, .int (iI qa)), (4, .int (iI qb)), (5, .int (iI v2)), (6, .int (iI 1))]) [1, 2, 3, 4, 5, 6, 0] rfl ?_
                  have L132 : ∀ (nn : Nat) (x1 : Int) (b1 : Int) (hx1 : 1 ≤ x1 ∧ x1 ≤ 12) (hb1 : 0 ≤ b1 ∧ b1 ≤ 720) (hI1 : wJ (tb mo) w h (4096 * x1) v2 b1) (hm : 12 - x1 < (nn : Int)), G X ({ frames := 2, cells := 0, slots := 0, locals := 48 } : Room) cX7_best 11 RX7 wsX7_best E [] 0 0 [(m0, oo 7 (fMo ra mm nf ti so ta go sl lo cn lx ly pm pi)), (ra 37, aI E 169 mo)] [(0, .ref m0), (1, .int (iI w)), (2, .int (iI h)), (3, .int (iI qa)), (4, .int (iI qb)), (5, .int (iI b1)), (6, .int (iI x1))] 132 [] := by
                    intro nn
                    induction nn with
                    | zero => intro x1 b1 hx1 hb1 hI1 hm; exfalso; omega
                    | succ nn ih132 =>
                      intro x1 b1 hx1 hb1 hI1 hm
                      have hS : isS qa qb (tb mo) w h v2 := kI_S (show k = w by omega) (show j = h by omega) hK1 hK2
                      refine g_iload 6 dX7_best_132 rfl ?_
                      refine g_iload_n 1 dX7_best_134 rfl rfl ?_
                      refine g_icmp_ge (tgt := 227) (by unfold R32; omega) (by unfold R32; omega) dX7_best_135 rfl (fun c_5 => ?_) (fun c_5 => ?_)
                      · refine g_iload 5 dX7_best_227 rfl ?_
                        exact g_iret hRet dX7_best_229 rfl ⟨b1, (by exact isB_all hS (by omega) hI1.1 hI1.2.1 hI1.2.2 (by omega) (by omega)), rfl, rfl⟩
                      · refine g_iload 6 dX7_best_138 rfl ?_
                        refine g_iconst dX7_best_140 ?_
                        refine g_iadd dX7_best_141 ?_
                        refine g_istore (lv1 := [(7, .int (iI (x1 + 1))), (0, .ref m0), (1, .int (iI w)), (2, .int (iI h)), (3, .int (iI qa)), (4, .int (iI qb)), (5, .int (iI b1)), (6, .int (iI x1))]) dX7_best_142 (by decide) rfl ?_
                        refine g_lv (lv1 := [(0, .ref m0), (1, .int (iI w)), (2, .int (iI h)), (3, .int (iI qa)), (4, .int (iI qb)), (5, .int (iI b1)), (6, .int (iI x1)), (7, .int (iI (x1 + 1)))]) [1, 2, 3, 4, 5, 6, 7, 0] rfl ?_
                        have L144 : ∀ (nn : Nat) (x2 : Int) (b2 : Int) (hx2 : x1 < x2 ∧ x2 ≤ 12) (hb2 : 0 ≤ b2 ∧ b2 ≤ 720) (hI2 : wJ (tb mo) w h (4096 * x1 + 256 * x2) v2 b2) (hm : 12 - x2 < (nn : Int)), G X ({ frames := 2, cells := 0, slots := 0, locals := 48 } : Room) cX7_best 11 RX7 wsX7_best E [] 0 0 [(m0, oo 7 (fMo ra mm nf ti so ta go sl lo cn lx ly pm pi)), (ra 37, aI E 169 mo)] [(0, .ref m0), (1, .int (iI w)), (2, .int (iI h)), (3, .int (iI qa)), (4, .int (iI qb)), (5, .int (iI b2)), (6, .int (iI x1)), (7, .int (iI x2))] 144 [] := by
                          intro nn
                          induction nn with
                          | zero => intro x2 b2 hx2 hb2 hI2 hm; exfalso; omega
                          | succ nn ih144 =>
                            intro x2 b2 hx2 hb2 hI2 hm
                            refine g_iload 7 dX7_best_144 rfl ?_
                            refine g_iload_n 1 dX7_best_146 rfl rfl ?_
                            refine g_icmp_ge (tgt := 221) (by unfold R32; omega) (by unfold R32; omega) dX7_best_147 rfl (fun c_6 => ?_) (fun c_6 => ?_)
                            · refine g_iinc (lv1 := [(6, .int (iI (x1 + 1))), (0, .ref m0), (1, .int (iI w)), (2, .int (iI h)), (3, .int (iI qa)), (4, .int (iI qb)), (5, .int (iI b2)), (7, .int (iI x2))]) 6 dX7_best_221 rfl (by decide) rfl ?_
                              refine g_goto (tgt := 132) dX7_best_224 rfl ?_
                              refine g_lv (lv1 := [(0, .ref m0), (1, .int (iI w)), (2, .int (iI h)), (3, .int (iI qa)), (4, .int (iI qb)), (5, .int (iI b2)), (6, .int (iI (x1 + 1)))]) [1, 2, 3, 4, 5, 6, 0] rfl ?_
                              exact ih132 (x1 + 1) b2 (by omega) (by omega) (by exact ⟨aK_e2 (by omega) (by omega) (by omega) (by omega) hI2.1, hI2.2⟩) (by omega)
                            · refine g_iconst dX7_best_150 ?_
                              refine g_istore (lv1 := [(8, .int (iI 1)), (0, .ref m0), (1, .int (iI w)), (2, .int (iI h)), (3, .int (iI qa)), (4, .int (iI qb)), (5, .int (iI b2)), (6, .int (iI x1)), (7, .int (iI x2))]) dX7_best_151 (by decide) rfl ?_
                              refine g_lv (lv1 := [(0, .ref m0), (1, .int (iI w)), (2, .int (iI h)), (3, .int (iI qa)), (4, .int (iI qb)), (5, .int (iI b2)), (6, .int (iI x1)), (7, .int (iI x2)), (8, .int (iI 1))]) [1, 2, 3, 4, 5, 6, 7, 8, 0] rfl ?_
                              have L153 : ∀ (nn : Nat) (y1 : Int) (b3 : Int) (hx3 : 1 ≤ y1 ∧ y1 ≤ 12) (hb3 : 0 ≤ b3 ∧ b3 ≤ 720) (hI3 : wJ (tb mo) w h (4096 * x1 + 256 * x2 + 16 * y1) v2 b3) (hm : 12 - y1 < (nn : Int)), G X ({ frames := 2, cells := 0, slots := 0, locals := 48 } : Room) cX7_best 11 RX7 wsX7_best E [] 0 0 [(m0, oo 7 (fMo ra mm nf ti so ta go sl lo cn lx ly pm pi)), (ra 37, aI E 169 mo)] [(0, .ref m0), (1, .int (iI w)), (2, .int (iI h)), (3, .int (iI qa)), (4, .int (iI qb)), (5, .int (iI b3)), (6, .int (iI x1)), (7, .int (iI x2)), (8, .int (iI y1))] 153 [] := by
                                intro nn
                                induction nn with
                                | zero => intro y1 b3 hx3 hb3 hI3 hm; exfalso; omega
                                | succ nn ih153 =>
                                  intro y1 b3 hx3 hb3 hI3 hm
                                  refine g_iload 8 dX7_best_153 rfl ?_
                                  refine g_iload_n 2 dX7_best_155 rfl rfl ?_
                                  refine g_icmp_ge (tgt := 215) (by unfold R32; omega) (by unfold R32; omega) dX7_best_156 rfl (fun c_7 => ?_) (fun c_7 => ?_)
                                  · refine g_iinc (lv1 := [(7, .int (iI (x2 + 1))), (0, .ref m0), (1, .int (iI w)), (2, .int (iI h)), (3, .int (iI qa)), (4, .int (iI qb)), (5, .int (iI b3)), (6, .int (iI x1)), (8, .int (iI y1))]) 7 dX7_best_215 rfl (by decide) rfl ?_
                                    refine g_goto (tgt := 144) dX7_best_218 rfl ?_
                                    refine g_lv (lv1 := [(0, .ref m0), (1, .int (iI w)), (2, .int (iI h)), (3, .int (iI qa)), (4, .int (iI qb)), (5, .int (iI b3)), (6, .int (iI x1)), (7, .int (iI (x2 + 1)))]) [1, 2, 3, 4, 5, 6, 7, 0] rfl ?_
                                    exact ih144 (x2 + 1) b3 (by omega) (by omega) (by exact ⟨aK_e3 (by omega) (by omega) (by omega) (by omega) hI3.1, hI3.2⟩) (by omega)
                                  · refine g_iload 8 dX7_best_159 rfl ?_
                                    refine g_iconst dX7_best_161 ?_
                                    refine g_iadd dX7_best_162 ?_
                                    refine g_istore (lv1 := [(9, .int (iI (y1 + 1))), (0, .ref m0), (1, .int (iI w)), (2, .int (iI h)), (3, .int (iI qa)), (4, .int (iI qb)), (5, .int (iI b3)), (6, .int (iI x1)), (7, .int (iI x2)), (8, .int (iI y1))]) dX7_best_163 (by decide) rfl ?_
                                    refine g_lv (lv1 := [(0, .ref m0), (1, .int (iI w)), (2, .int (iI h)), (3, .int (iI qa)), (4, .int (iI qb)), (5, .int (iI b3)), (6, .int (iI x1)), (7, .int (iI x2)), (8, .int (iI y1)), (9, .int (iI (y1 + 1)))]) [1, 2, 3, 4, 5, 6, 7, 8, 9, 0] rfl ?_
                                    have L165 : ∀ (nn : Nat) (y2 : Int) (b4 : Int) (hx4 : y1 < y2 ∧ y2 ≤ 12) (hb4 : 0 ≤ b4 ∧ b4 ≤ 720) (hI4 : wJ (tb mo) w h (4096 * x1 + 256 * x2 + 16 * y1 + y2) v2 b4) (hm : 12 - y2 < (nn : Int)), G X ({ frames := 2, cells := 0, slots := 0, locals := 48 } : Room) cX7_best 11 RX7 wsX7_best E [] 0 0 [(m0, oo 7 (fMo ra mm nf ti so ta go sl lo cn lx ly pm pi)), (ra 37, aI E 169 mo)] [(0, .ref m0), (1, .int (iI w)), (2, .int (iI h)), (3, .int (iI qa)), (4, .int (iI qb)), (5, .int (iI b4)), (6, .int (iI x1)), (7, .int (iI x2)), (8, .int (iI y1)), (9, .int (iI y2))] 165 [] := by
                                      intro nn
                                      induction nn with
                                      | zero => intro y2 b4 hx4 hb4 hI4 hm; exfalso; omega
                                      | succ nn ih165 =>
                                        intro y2 b4 hx4 hb4 hI4 hm
                                        refine g_iload 9 dX7_best_165 rfl ?_
                                        refine g_iload_n 2 dX7_best_167 rfl rfl ?_
                                        refine g_icmp_ge (tgt := 209) (by unfold R32; omega) (by unfold R32; omega) dX7_best_168 rfl (fun c_8 => ?_) (fun c_8 => ?_)
                                        · refine g_iinc (lv1 := [(8, .int (iI (y1 + 1))), (0, .ref m0), (1, .int (iI w)), (2, .int (iI h)), (3, .int (iI qa)), (4, .int (iI qb)), (5, .int (iI b4)), (6, .int (iI x1)), (7, .int (iI x2)), (9, .int (iI y2))]) 8 dX7_best_209 rfl (by decide) rfl ?_
                                          refine g_goto (tgt := 153) dX7_best_212 rfl ?_
                                          refine g_lv (lv1 := [(0, .ref m0), (1, .int (iI w)), (2, .int (iI h)), (3, .int (iI qa)), (4, .int (iI qb)), (5, .int (iI b4)), (6, .int (iI x1)), (7, .int (iI x2)), (8, .int (iI (y1 + 1)))]) [1, 2, 3, 4, 5, 6, 7, 8, 0] rfl ?_
                                          exact ih153 (y1 + 1) b4 (by omega) (by omega) (by exact ⟨aK_e4 (by omega) (by omega) (by omega) (by omega) hI4.1, hI4.2⟩) (by omega)
                                        · refine g_aload_n 0 dX7_best_171 rfl rfl ?_
                                          refine g_iload_n 1 dX7_best_172 rfl rfl ?_
                                          refine g_iload_n 2 dX7_best_173 rfl rfl ?_
                                          refine g_iload 6 dX7_best_174 rfl ?_
                                          refine g_iload 7 dX7_best_176 rfl ?_
                                          refine g_iload 8 dX7_best_178 rfl ?_
                                          refine g_iload 9 dX7_best_180 rfl ?_
                                          refine g_callV_i (n := 6) (As := [.int (iI w), .int (iI h), .int (iI x1), .int (iI x2), .int (iI y1), .int (iI y2)]) (wr := []) (C := RX7) [] (c_X7_wheel E m0 ra mm nf ti so ta go sl lo cn lx ly pm pi mo w h x1 x2 y1 y2 (by omega) (by omega) (by unfold vN; omega)) [0, 1] [] 0 rfl rfl gX7_best_X7_wheel rfl ⟨rfl, by decide +kernel⟩ ⟨by decide, by decide⟩ rfl rfl rfl rfl rfl (by decide) rfl (by decide) (by decide) (fun _ h => absurd h List.not_mem_nil) dX7_best_182 rfl (Nat.le_of_ble_eq_true rfl) ⟨by decide, by decide⟩ (fun r u p_9 => ?_)
                                          obtain ⟨rfl, rfl⟩ := p_9
                                          have hcp := cP_b hmo w h x1 x2 y1 y2
                                          refine g_istore (lv1 := [(10, .int (iI (cP (tb mo) w h x1 x2 y1 y2))), (0, .ref m0), (1, .int (iI w)), (2, .int (iI h)), (3, .int (iI qa)), (4, .int (iI qb)), (5, .int (iI b4)), (6, .int (iI x1)), (7, .int (iI x2)), (8, .int (iI y1)), (9, .int (iI y2))]) dX7_best_185 (by decide) rfl ?_
                                          refine g_iload 0 dX7_best_187 rfl ?_
                                          refine g_iload 6 dX7_best_189 rfl ?_
                                          refine g_icmp_le (tgt := 199) (by unfold R32; omega) (by unfold R32; omega) dX7_best_191 rfl (fun c_10 => ?_) (fun c_10 => ?_)
                                          · refine g_iload 6 dX7_best_199 rfl ?_
                                            refine g_istore (lv1 := [(5, .int (iI b4)), (10, .int (iI (cP (tb mo) w h x1 x2 y1 y2))), (0, .ref m0), (1, .int (iI w)), (2, .int (iI h)), (3, .int (iI qa)), (4, .int (iI qb)), (6, .int (iI x1)), (7, .int (iI x2)), (8, .int (iI y1)), (9, .int (iI y2))]) dX7_best_201 (by decide) rfl ?_
                                            refine g_iinc (lv1 := [(9, .int (iI (y2 + 1))), (5, .int (iI b4)), (10, .int (iI (cP (tb mo) w h x1 x2 y1 y2))), (0, .ref m0), (1, .int (iI w)), (2, .int (iI h)), (3, .int (iI qa)), (4, .int (iI qb)), (6, .int (iI x1)), (7, .int (iI x2)), (8, .int (iI y1))]) 10 dX7_best_203 rfl (by decide) rfl ?_
                                            refine g_goto (tgt := 165) dX7_best_206 rfl ?_
                                            refine g_lv (lv1 := [(0, .ref m0), (1, .int (iI w)), (2, .int (iI h)), (3, .int (iI qa)), (4, .int (iI qb)), (5, .int (iI b4)), (6, .int (iI x1)), (7, .int (iI x2)), (8, .int (iI y1)), (9, .int (iI (y2 + 1)))]) [3, 4, 5, 6, 7, 1, 8, 9, 10, 0] rfl ?_
                                            exact ih165 (y2 + 1) b4 (by omega) (by omega) (by exact wJ_t (by omega) (by omega) (by unfold vN; omega) hI4 (by omega)) (by omega)
                                          · refine g_iload 0 dX7_best_194 rfl ?_
                                            refine g_goto (tgt := 201) dX7_best_196 rfl ?_
                                            refine g_istore (lv1 := [(5, .int (iI (cP (tb mo) w h x1 x2 y1 y2))), (10, .int (iI (cP (tb mo) w h x1 x2 y1 y2))), (0, .ref m0), (1, .int (iI w)), (2, .int (iI h)), (3, .int (iI qa)), (4, .int (iI qb)), (6, .int (iI x1)), (7, .int (iI x2)), (8, .int (iI y1)), (9, .int (iI y2))]) dX7_best_201 (by decide) rfl ?_
                                            refine g_iinc (lv1 := [(9, .int (iI (y2 + 1))), (5, .int (iI (cP (tb mo) w h x1 x2 y1 y2))), (10, .int (iI (cP (tb mo) w h x1 x2 y1 y2))), (0, .ref m0), (1, .int (iI w)), (2, .int (iI h)), (3, .int (iI qa)), (4, .int (iI qb)), (6, .int (iI x1)), (7, .int (iI x2)), (8, .int (iI y1))]) 10 dX7_best_203 rfl (by decide) rfl ?_
                                            refine g_goto (tgt := 165) dX7_best_206 rfl ?_
                                            refine g_lv (lv1 := [(0, .ref m0), (1, .int (iI w)), (2, .int (iI h)), (3, .int (iI qa)), (4, .int (iI qb)), (5, .int (iI (cP (tb mo) w h x1 x2 y1 y2))), (6, .int (iI x1)), (7, .int (iI x2)), (8, .int (iI y1)), (9, .int (iI (y2 + 1)))]) [3, 4, 5, 6, 7, 1, 8, 9, 10, 0] rfl ?_
                                            exact ih165 (y2 + 1) (cP (tb mo) w h x1 x2 y1 y2) (by omega) (by omega) (by exact wJ_t (by omega) (by omega) (by unfold vN; omega) hI4 (by omega)) (by omega)
                                    exact L165 _ (y1 + 1) b3 (by omega) (by omega) (by exact ⟨aK_y2 (hy := by omega) (by omega) (by omega) (by omega) hI3.1, hI3.2⟩) (lt_nn _)
                              exact L153 _ 1 b2 (by omega) (by omega) (by exact ⟨aK_y1  (by omega) (by omega) (by omega) hI2.1, hI2.2⟩) (lt_nn _)
                        exact L144 _ (x1 + 1) b1 (by omega) (by omega) (by exact ⟨aK_x2  (by omega) (by omega) (by omega) hI1.1, hI1.2⟩) (lt_nn _)
                  exact L132 _ 1 v2 (by omega) (by omega) (by exact ⟨aK_0 (by omega) (by omega) (by omega), by omega, Or.inl rfl⟩) (lt_nn _)
                · refine g_aload_n 0 dX7_best_88 rfl rfl ?_
                  refine g_iload_n 1 dX7_best_89 rfl rfl ?_
                  refine g_iload 6 dX7_best_90 rfl ?_
                  refine g_callV_i (n := 2) (As := [.int (iI w), .int (iI j)]) (wr := []) (C := RX7) [] (c_X7_mostOf E m0 ra mm nf ti so ta go sl lo cn lx ly pm pi mo w j (by omega) (by omega)) [0, 1] [] 0 rfl rfl gX7_best_X7_mostOf rfl ⟨rfl, by decide +kernel⟩ ⟨by decide, by decide⟩ rfl rfl rfl rfl rfl (by decide) rfl (by decide) (by decide) (fun _ h => absurd h List.not_mem_nil) dX7_best_92 rfl (Nat.le_of_ble_eq_true rfl) ⟨by decide, by decide⟩ (fun r u p_11 => ?_)
                  obtain ⟨rfl, rfl⟩ := p_11
                  have ht1 := tb_b hmo w j
                  refine g_aload_n 0 dX7_best_95 rfl rfl ?_
                  refine g_iload_n 1 dX7_best_96 rfl rfl ?_
                  refine g_iload_n 2 dX7_best_97 rfl rfl ?_
                  refine g_iload 6 dX7_best_98 rfl ?_
                  refine g_isub dX7_best_100 ?_
                  refine g_callV_i (n := 2) (As := [.int (iI w), .int (iI (h - j))]) (wr := []) (C := RX7) [.int (iI (tb mo w j))] (c_X7_mostOf E m0 ra mm nf ti so ta go sl lo cn lx ly pm pi mo w (h - j) (by omega) (by omega)) [0, 1] [] 0 rfl rfl gX7_best_X7_mostOf rfl ⟨rfl, by decide +kernel⟩ ⟨by decide, by decide⟩ rfl rfl rfl rfl rfl (by decide) rfl (by decide) (by decide) (fun _ h => absurd h List.not_mem_nil) dX7_best_101 rfl (Nat.le_of_ble_eq_true rfl) ⟨by decide, by decide⟩ (fun r u p_12 => ?_)
                  obtain ⟨rfl, rfl⟩ := p_12
                  have ht2 := tb_b hmo w (h - j)
                  refine g_iadd dX7_best_104 ?_
                  refine g_istore (lv1 := [(7, .int (iI ((tb mo w j) + (tb mo w (h - j))))), (0, .ref m0), (1, .int (iI w)), (2, .int (iI h)), (3, .int (iI qa)), (4, .int (iI qb)), (5, .int (iI v2)), (6, .int (iI j))]) dX7_best_105 (by decide) rfl ?_
                  refine g_iload 0 dX7_best_107 rfl ?_
                  refine g_iload 6 dX7_best_109 rfl ?_
                  refine g_icmp_le (tgt := 119) (by unfold R32; omega) (by unfold R32; omega) dX7_best_111 rfl (fun c_13 => ?_) (fun c_13 => ?_)
                  · refine g_iload 6 dX7_best_119 rfl ?_
                    refine g_istore (lv1 := [(5, .int (iI v2)), (7, .int (iI ((tb mo w j) + (tb mo w (h - j))))), (0, .ref m0), (1, .int (iI w)), (2, .int (iI h)), (3, .int (iI qa)), (4, .int (iI qb)), (6, .int (iI j))]) dX7_best_121 (by decide) rfl ?_
                    refine g_iinc (lv1 := [(6, .int (iI (j + 1))), (5, .int (iI v2)), (7, .int (iI ((tb mo w j) + (tb mo w (h - j))))), (0, .ref m0), (1, .int (iI w)), (2, .int (iI h)), (3, .int (iI qa)), (4, .int (iI qb))]) 7 dX7_best_123 rfl (by decide) rfl ?_
                    refine g_goto (tgt := 82) dX7_best_126 rfl ?_
                    refine g_lv (lv1 := [(0, .ref m0), (1, .int (iI w)), (2, .int (iI h)), (3, .int (iI qa)), (4, .int (iI qb)), (5, .int (iI v2)), (6, .int (iI (j + 1)))]) [3, 4, 5, 6, 7, 1, 0] rfl ?_
                    exact ih82 (j + 1) v2 (by omega) (by omega) (by exact kI_t (by omega) hK2 (by unfold cL; omega)) (by omega)
                  · refine g_iload 0 dX7_best_114 rfl ?_
                    refine g_goto (tgt := 121) dX7_best_116 rfl ?_
                    refine g_istore (lv1 := [(5, .int (iI ((tb mo w j) + (tb mo w (h - j))))), (7, .int (iI ((tb mo w j) + (tb mo w (h - j))))), (0, .ref m0), (1, .int (iI w)), (2, .int (iI h)), (3, .int (iI qa)), (4, .int (iI qb)), (6, .int (iI j))]) dX7_best_121 (by decide) rfl ?_
                    refine g_iinc (lv1 := [(6, .int (iI (j + 1))), (5, .int (iI ((tb mo w j) + (tb mo w (h - j))))), (7, .int (iI ((tb mo w j) + (tb mo w (h - j))))), (0, .ref m0), (1, .int (iI w)), (2, .int (iI h)), (3, .int (iI qa)), (4, .int (iI qb))]) 7 dX7_best_123 rfl (by decide) rfl ?_
                    refine g_goto (tgt := 82) dX7_best_126 rfl ?_
                    refine g_lv (lv1 := [(0, .ref m0), (1, .int (iI w)), (2, .int (iI h)), (3, .int (iI qa)), (4, .int (iI qb)), (5, .int (iI ((tb mo w j) + (tb mo w (h - j))))), (6, .int (iI (j + 1)))]) [3, 4, 5, 6, 7, 1, 0] rfl ?_
                    exact ih82 (j + 1) ((tb mo w j) + (tb mo w (h - j))) (by omega) (by omega) (by exact kI_t (by omega) hK2 (by unfold cL; omega)) (by omega)
            exact L82 _ 1 v1 (by omega) (by omega) (by exact kI_1 _ _) (lt_nn _)
          · refine g_aload_n 0 dX7_best_38 rfl rfl ?_
            refine g_iload 6 dX7_best_39 rfl ?_
            refine g_iload_n 2 dX7_best_41 rfl rfl ?_
            refine g_callV_i (n := 2) (As := [.int (iI k), .int (iI h)]) (wr := []) (C := RX7) [] (c_X7_mostOf E m0 ra mm nf ti so ta go sl lo cn lx ly pm pi mo k h (by omega) (by omega)) [0, 1] [] 0 rfl rfl gX7_best_X7_mostOf rfl ⟨rfl, by decide +kernel⟩ ⟨by decide, by decide⟩ rfl rfl rfl rfl rfl (by decide) rfl (by decide) (by decide) (fun _ h => absurd h List.not_mem_nil) dX7_best_42 rfl (Nat.le_of_ble_eq_true rfl) ⟨by decide, by decide⟩ (fun r u p_14 => ?_)
            obtain ⟨rfl, rfl⟩ := p_14
            have ht1 := tb_b hmo k h
            refine g_aload_n 0 dX7_best_45 rfl rfl ?_
            refine g_iload_n 1 dX7_best_46 rfl rfl ?_
            refine g_iload 6 dX7_best_47 rfl ?_
            refine g_isub dX7_best_49 ?_
            refine g_iload_n 2 dX7_best_50 rfl rfl ?_
            refine g_callV_i (n := 2) (As := [.int (iI (w - k)), .int (iI h)]) (wr := []) (C := RX7) [.int (iI (tb mo k h))] (c_X7_mostOf E m0 ra mm nf ti so ta go sl lo cn lx ly pm pi mo (w - k) h (by omega) (by omega)) [0, 1] [] 0 rfl rfl gX7_best_X7_mostOf rfl ⟨rfl, by decide +kernel⟩ ⟨by decide, by decide⟩ rfl rfl rfl rfl rfl (by decide) rfl (by decide) (by decide) (fun _ h => absurd h List.not_mem_nil) dX7_best_51 rfl (Nat.le_of_ble_eq_true rfl) ⟨by decide, by decide⟩ (fun r u p_15 => ?_)
            obtain ⟨rfl, rfl⟩ := p_15
            have ht2 := tb_b hmo (w - k) h
            refine g_iadd dX7_best_54 ?_
            refine g_istore (lv1 := [(7, .int (iI ((tb mo k h) + (tb mo (w - k) h)))), (0, .ref m0), (1, .int (iI w)), (2, .int (iI h)), (3, .int (iI qa)), (4, .int (iI qb)), (5, .int (iI v1)), (6, .int (iI k))]) dX7_best_55 (by decide) rfl ?_
            refine g_iload 0 dX7_best_57 rfl ?_
            refine g_iload 6 dX7_best_59 rfl ?_
            refine g_icmp_le (tgt := 69) (by unfold R32; omega) (by unfold R32; omega) dX7_best_61 rfl (fun c_16 => ?_) (fun c_16 => ?_)
            · refine g_iload 6 dX7_best_69 rfl ?_
              refine g_istore (lv1 := [(5, .int (iI v1)), (7, .int (iI ((tb mo k h) + (tb mo (w - k) h)))), (0, .ref m0), (1, .int (iI w)), (2, .int (iI h)), (3, .int (iI qa)), (4, .int (iI qb)), (6, .int (iI k))]) dX7_best_71 (by decide) rfl ?_
              refine g_iinc (lv1 := [(6, .int (iI (k + 1))), (5, .int (iI v1)), (7, .int (iI ((tb mo k h) + (tb mo (w - k) h)))), (0, .ref m0), (1, .int (iI w)), (2, .int (iI h)), (3, .int (iI qa)), (4, .int (iI qb))]) 7 dX7_best_73 rfl (by decide) rfl ?_
              refine g_goto (tgt := 32) dX7_best_76 rfl ?_
              refine g_lv (lv1 := [(0, .ref m0), (1, .int (iI w)), (2, .int (iI h)), (3, .int (iI qa)), (4, .int (iI qb)), (5, .int (iI v1)), (6, .int (iI (k + 1)))]) [3, 4, 5, 6, 7, 1, 0] rfl ?_
              exact ih32 (k + 1) v1 (by omega) (by omega) (by exact kI_t (by omega) hK1 (by unfold cU; omega)) (by omega)
            · refine g_iload 0 dX7_best_64 rfl ?_
              refine g_goto (tgt := 71) dX7_best_66 rfl ?_
              refine g_istore (lv1 := [(5, .int (iI ((tb mo k h) + (tb mo (w - k) h)))), (7, .int (iI ((tb mo k h) + (tb mo (w - k) h)))), (0, .ref m0), (1, .int (iI w)), (2, .int (iI h)), (3, .int (iI qa)), (4, .int (iI qb)), (6, .int (iI k))]) dX7_best_71 (by decide) rfl ?_
              refine g_iinc (lv1 := [(6, .int (iI (k + 1))), (5, .int (iI ((tb mo k h) + (tb mo (w - k) h)))), (7, .int (iI ((tb mo k h) + (tb mo (w - k) h)))), (0, .ref m0), (1, .int (iI w)), (2, .int (iI h)), (3, .int (iI qa)), (4, .int (iI qb))]) 7 dX7_best_73 rfl (by decide) rfl ?_
              refine g_goto (tgt := 32) dX7_best_76 rfl ?_
              refine g_lv (lv1 := [(0, .ref m0), (1, .int (iI w)), (2, .int (iI h)), (3, .int (iI qa)), (4, .int (iI qb)), (5, .int (iI ((tb mo k h) + (tb mo (w - k) h)))), (6, .int (iI (k + 1)))]) [3, 4, 5, 6, 7, 1, 0] rfl ?_
              exact ih32 (k + 1) ((tb mo k h) + (tb mo (w - k) h)) (by omega) (by omega) (by exact kI_t (by omega) hK1 (by unfold cU; omega)) (by omega)
      exact L32 _ 1 (bs qa qb w h) (by omega) (by omega) (by exact kI_1 _ _) (lt_nn _)
    · refine g_iload_n 3 dX7_best_17 rfl rfl ?_
      refine g_iload_n 2 dX7_best_18 rfl rfl ?_
      refine g_icmp_gt (tgt := 26) (by unfold R32; omega) (by unfold R32; omega) dX7_best_19 rfl (fun c_17 => ?_) (fun c_17 => ?_)
      · refine g_iconst dX7_best_26 ?_
        have hbs := bs_01 qa qb w h
        refine g_top (y := iI (bs qa qb w h)) (congrArg iI (by unfold bs; first | (rw [if_pos (by omega)]; done) | (rw [if_neg (by omega)]; done))) ?_
        refine g_istore (lv1 := [(5, .int (iI (bs qa qb w h))), (0, .ref m0), (1, .int (iI w)), (2, .int (iI h)), (3, .int (iI qa)), (4, .int (iI qb))]) dX7_best_27 (by decide) rfl ?_
        refine g_iconst dX7_best_29 ?_
        refine g_istore (lv1 := [(6, .int (iI 1)), (5, .int (iI (bs qa qb w h))), (0, .ref m0), (1, .int (iI w)), (2, .int (iI h)), (3, .int (iI qa)), (4, .int (iI qb))]) dX7_best_30 (by decide) rfl ?_
        refine g_lv (lv1 := [(0, .ref m0), (1, .int (iI w)), (2, .int (iI h)), (3, .int (iI qa)), (4, .int (iI qb)), (5, .int (iI (bs qa qb w h))), (6, .int (iI 1))]) [2, 3, 4, 5, 6, 1, 0] rfl ?_
        have L32 : ∀ (nn : Nat) (k : Int) (v1 : Int) (hk : 1 ≤ k ∧ k ≤ w) (hv1 : 0 ≤ v1 ∧ v1 ≤ 720) (hK1 : kI (bs qa qb w h) (cU (tb mo) w h) k v1) (hm : w - k < (nn : Int)), G X ({ frames := 2, cells := 0, slots := 0, locals := 48 } : Room) cX7_best 11 RX7 wsX7_best E [] 0 0 [(m0, oo 7 (fMo ra mm nf ti so ta go sl lo cn lx ly pm pi)), (ra 37, aI E 169 mo)] [(0, .ref m0), (1, .int (iI w)), (2, .int (iI h)), (3, .int (iI qa)), (4, .int (iI qb)), (5, .int (iI v1)), (6, .int (iI k))] 32 [] := by
          intro nn
          induction nn with
          | zero => intro k v1 hk hv1 hK1 hm; exfalso; omega
          | succ nn ih32 =>
            intro k v1 hk hv1 hK1 hm
            refine g_iload 6 dX7_best_32 rfl ?_
            refine g_iload_n 1 dX7_best_34 rfl rfl ?_
            refine g_icmp_ge (tgt := 79) (by unfold R32; omega) (by unfold R32; omega) dX7_best_35 rfl (fun c_18 => ?_) (fun c_18 => ?_)
            · refine g_iconst dX7_best_79 ?_
              refine g_istore (lv1 := [(6, .int (iI 1)), (0, .ref m0), (1, .int (iI w)), (2, .int (iI h)), (3, .int (iI qa)), (4, .int (iI qb)), (5, .int (iI v1))]) dX7_best_80 (by decide) rfl ?_
              refine g_lv (lv1 := [(0, .ref m0), (1, .int (iI w)), (2, .int (iI h)), (3, .int (iI qa)), (4, .int (iI qb)), (5, .int (iI v1)), (6, .int (iI 1))]) [1, 2, 3, 4, 5, 6, 0] rfl ?_
              have L82 : ∀ (nn : Nat) (j : Int) (v2 : Int) (hj : 1 ≤ j ∧ j ≤ h) (hv2 : 0 ≤ v2 ∧ v2 ≤ 720) (hK2 : kI v1 (cL (tb mo) w h) j v2) (hm : h - j < (nn : Int)), G X ({ frames := 2, cells := 0, slots := 0, locals := 48 } : Room) cX7_best 11 RX7 wsX7_best E [] 0 0 [(m0, oo 7 (fMo ra mm nf ti so ta go sl lo cn lx ly pm pi)), (ra 37, aI E 169 mo)] [(0, .ref m0), (1, .int (iI w)), (2, .int (iI h)), (3, .int (iI qa)), (4, .int (iI qb)), (5, .int (iI v2)), (6, .int (iI j))] 82 [] := by
                intro nn
                induction nn with
                | zero => intro j v2 hj hv2 hK2 hm; exfalso; omega
                | succ nn ih82 =>
                  intro j v2 hj hv2 hK2 hm
                  refine g_iload 6 dX7_best_82 rfl ?_
                  refine g_iload_n 2 dX7_best_84 rfl rfl ?_
                  refine g_icmp_ge (tgt := 129) (by unfold R32; omega) (by unfold R32; omega) dX7_best_85 rfl (fun c_19 => ?_) (fun c_19 => ?_)
                  · refine g_iconst dX7_best_129 ?_
                    refine g_istore (lv1 := [(6, .int (iI 1)), (0, .ref m0), (1, .int (iI w)), (2, .int (iI h)), (3, .int (iI qa)), (4, .int (iI qb)), (5, .int (iI v2))]) dX7_best_130 (by decide) rfl ?_
                    refine g_lv (lv1 := [(0, .ref m0), (1, .int (iI w)), (2, .int (iI h)), (3, .int (iI qa)), (4, .int (iI qb)), (5, .int (iI v2)), (6, .int (iI 1))]) [1, 2, 3, 4, 5, 6, 0] rfl ?_
                    have L132 : ∀ (nn : Nat) (x1 : Int) (b1 : Int) (hx1 : 1 ≤ x1 ∧ x1 ≤ 12) (hb1 : 0 ≤ b1 ∧ b1 ≤ 720) (hI1 : wJ (tb mo) w h (4096 * x1) v2 b1) (hm : 12 - x1 < (nn : Int)), G X ({ frames := 2, cells := 0, slots := 0, locals := 48 } : Room) cX7_best 11 RX7 wsX7_best E [] 0 0 [(m0, oo 7 (fMo ra mm nf ti so ta go sl lo cn lx ly pm pi)), (ra 37, aI E 169 mo)] [(0, .ref m0), (1, .int (iI w)), (2, .int (iI h)), (3, .int (iI qa)), (4, .int (iI qb)), (5, .int (iI b1)), (6, .int (iI x1))] 132 [] := by
                      intro nn
                      induction nn with
                      | zero => intro x1 b1 hx1 hb1 hI1 hm; exfalso; omega
                      | succ nn ih132 =>
                        intro x1 b1 hx1 hb1 hI1 hm
                        have hS : isS qa qb (tb mo) w h v2 := kI_S (show k = w by omega) (show j = h by omega) hK1 hK2
                        refine g_iload 6 dX7_best_132 rfl ?_
                        refine g_iload_n 1 dX7_best_134 rfl rfl ?_
                        refine g_icmp_ge (tgt := 227) (by unfold R32; omega) (by unfold R32; omega) dX7_best_135 rfl (fun c_20 => ?_) (fun c_20 => ?_)
                        · refine g_iload 5 dX7_best_227 rfl ?_
                          exact g_iret hRet dX7_best_229 rfl ⟨b1, (by exact isB_all hS (by omega) hI1.1 hI1.2.1 hI1.2.2 (by omega) (by omega)), rfl, rfl⟩
                        · refine g_iload 6 dX7_best_138 rfl ?_
                          refine g_iconst dX7_best_140 ?_
                          refine g_iadd dX7_best_141 ?_
                          refine g_istore (lv1 := [(7, .int (iI (x1 + 1))), (0, .ref m0), (1, .int (iI w)), (2, .int (iI h)), (3, .int (iI qa)), (4, .int (iI qb)), (5, .int (iI b1)), (6, .int (iI x1))]) dX7_best_142 (by decide) rfl ?_
                          refine g_lv (lv1 := [(0, .ref m0), (1, .int (iI w)), (2, .int (iI h)), (3, .int (iI qa)), (4, .int (iI qb)), (5, .int (iI b1)), (6, .int (iI x1)), (7, .int (iI (x1 + 1)))]) [1, 2, 3, 4, 5, 6, 7, 0] rfl ?_
                          have L144 : ∀ (nn : Nat) (x2 : Int) (b2 : Int) (hx2 : x1 < x2 ∧ x2 ≤ 12) (hb2 : 0 ≤ b2 ∧ b2 ≤ 720) (hI2 : wJ (tb mo) w h (4096 * x1 + 256 * x2) v2 b2) (hm : 12 - x2 < (nn : Int)), G X ({ frames := 2, cells := 0, slots := 0, locals := 48 } : Room) cX7_best 11 RX7 wsX7_best E [] 0 0 [(m0, oo 7 (fMo ra mm nf ti so ta go sl lo cn lx ly pm pi)), (ra 37, aI E 169 mo)] [(0, .ref m0), (1, .int (iI w)), (2, .int (iI h)), (3, .int (iI qa)), (4, .int (iI qb)), (5, .int (iI b2)), (6, .int (iI x1)), (7, .int (iI x2))] 144 [] := by
                            intro nn
                            induction nn with
                            | zero => intro x2 b2 hx2 hb2 hI2 hm; exfalso; omega
                            | succ nn ih144 =>
                              intro x2 b2 hx2 hb2 hI2 hm
                              refine g_iload 7 dX7_best_144 rfl ?_
                              refine g_iload_n 1 dX7_best_146 rfl rfl ?_
                              refine g_icmp_ge (tgt := 221) (by unfold R32; omega) (by unfold R32; omega) dX7_best_147 rfl (fun c_21 => ?_) (fun c_21 => ?_)
                              · refine g_iinc (lv1 := [(6, .int (iI (x1 + 1))), (0, .ref m0), (1, .int (iI w)), (2, .int (iI h)), (3, .int (iI qa)), (4, .int (iI qb)), (5, .int (iI b2)), (7, .int (iI x2))]) 6 dX7_best_221 rfl (by decide) rfl ?_
                                refine g_goto (tgt := 132) dX7_best_224 rfl ?_
                                refine g_lv (lv1 := [(0, .ref m0), (1, .int (iI w)), (2, .int (iI h)), (3, .int (iI qa)), (4, .int (iI qb)), (5, .int (iI b2)), (6, .int (iI (x1 + 1)))]) [1, 2, 3, 4, 5, 6, 0] rfl ?_
                                exact ih132 (x1 + 1) b2 (by omega) (by omega) (by exact ⟨aK_e2 (by omega) (by omega) (by omega) (by omega) hI2.1, hI2.2⟩) (by omega)
                              · refine g_iconst dX7_best_150 ?_
                                refine g_istore (lv1 := [(8, .int (iI 1)), (0, .ref m0), (1, .int (iI w)), (2, .int (iI h)), (3, .int (iI qa)), (4, .int (iI qb)), (5, .int (iI b2)), (6, .int (iI x1)), (7, .int (iI x2))]) dX7_best_151 (by decide) rfl ?_
                                refine g_lv (lv1 := [(0, .ref m0), (1, .int (iI w)), (2, .int (iI h)), (3, .int (iI qa)), (4, .int (iI qb)), (5, .int (iI b2)), (6, .int (iI x1)), (7, .int (iI x2)), (8, .int (iI 1))]) [1, 2, 3, 4, 5, 6, 7, 8, 0] rfl ?_
                                have L153 : ∀ (nn : Nat) (y1 : Int) (b3 : Int) (hx3 : 1 ≤ y1 ∧ y1 ≤ 12) (hb3 : 0 ≤ b3 ∧ b3 ≤ 720) (hI3 : wJ (tb mo) w h (4096 * x1 + 256 * x2 + 16 * y1) v2 b3) (hm : 12 - y1 < (nn : Int)), G X ({ frames := 2, cells := 0, slots := 0, locals := 48 } : Room) cX7_best 11 RX7 wsX7_best E [] 0 0 [(m0, oo 7 (fMo ra mm nf ti so ta go sl lo cn lx ly pm pi)), (ra 37, aI E 169 mo)] [(0, .ref m0), (1, .int (iI w)), (2, .int (iI h)), (3, .int (iI qa)), (4, .int (iI qb)), (5, .int (iI b3)), (6, .int (iI x1)), (7, .int (iI x2)), (8, .int (iI y1))] 153 [] := by
                                  intro nn
                                  induction nn with
                                  | zero => intro y1 b3 hx3 hb3 hI3 hm; exfalso; omega
                                  | succ nn ih153 =>
                                    intro y1 b3 hx3 hb3 hI3 hm
                                    refine g_iload 8 dX7_best_153 rfl ?_
                                    refine g_iload_n 2 dX7_best_155 rfl rfl ?_
                                    refine g_icmp_ge (tgt := 215) (by unfold R32; omega) (by unfold R32; omega) dX7_best_156 rfl (fun c_22 => ?_) (fun c_22 => ?_)
                                    · refine g_iinc (lv1 := [(7, .int (iI (x2 + 1))), (0, .ref m0), (1, .int (iI w)), (2, .int (iI h)), (3, .int (iI qa)), (4, .int (iI qb)), (5, .int (iI b3)), (6, .int (iI x1)), (8, .int (iI y1))]) 7 dX7_best_215 rfl (by decide) rfl ?_
                                      refine g_goto (tgt := 144) dX7_best_218 rfl ?_
                                      refine g_lv (lv1 := [(0, .ref m0), (1, .int (iI w)), (2, .int (iI h)), (3, .int (iI qa)), (4, .int (iI qb)), (5, .int (iI b3)), (6, .int (iI x1)), (7, .int (iI (x2 + 1)))]) [1, 2, 3, 4, 5, 6, 7, 0] rfl ?_
                                      exact ih144 (x2 + 1) b3 (by omega) (by omega) (by exact ⟨aK_e3 (by omega) (by omega) (by omega) (by omega) hI3.1, hI3.2⟩) (by omega)
                                    · refine g_iload 8 dX7_best_159 rfl ?_
                                      refine g_iconst dX7_best_161 ?_
                                      refine g_iadd dX7_best_162 ?_
                                      refine g_istore (lv1 := [(9, .int (iI (y1 + 1))), (0, .ref m0), (1, .int (iI w)), (2, .int (iI h)), (3, .int (iI qa)), (4, .int (iI qb)), (5, .int (iI b3)), (6, .int (iI x1)), (7, .int (iI x2)), (8, .int (iI y1))]) dX7_best_163 (by decide) rfl ?_
                                      refine g_lv (lv1 := [(0, .ref m0), (1, .int (iI w)), (2, .int (iI h)), (3, .int (iI qa)), (4, .int (iI qb)), (5, .int (iI b3)), (6, .int (iI x1)), (7, .int (iI x2)), (8, .int (iI y1)), (9, .int (iI (y1 + 1)))]) [1, 2, 3, 4, 5, 6, 7, 8, 9, 0] rfl ?_
                                      have L165 : ∀ (nn : Nat) (y2 : Int) (b4 : Int) (hx4 : y1 < y2 ∧ y2 ≤ 12) (hb4 : 0 ≤ b4 ∧ b4 ≤ 720) (hI4 : wJ (tb mo) w h (4096 * x1 + 256 * x2 + 16 * y1 + y2) v2 b4) (hm : 12 - y2 < (nn : Int)), G X ({ frames := 2, cells := 0, slots := 0, locals := 48 } : Room) cX7_best 11 RX7 wsX7_best E [] 0 0 [(m0, oo 7 (fMo ra mm nf ti so ta go sl lo cn lx ly pm pi)), (ra 37, aI E 169 mo)] [(0, .ref m0), (1, .int (iI w)), (2, .int (iI h)), (3, .int (iI qa)), (4, .int (iI qb)), (5, .int (iI b4)), (6, .int (iI x1)), (7, .int (iI x2)), (8, .int (iI y1)), (9, .int (iI y2))] 165 [] := by
                                        intro nn
                                        induction nn with
                                        | zero => intro y2 b4 hx4 hb4 hI4 hm; exfalso; omega
                                        | succ nn ih165 =>
                                          intro y2 b4 hx4 hb4 hI4 hm
                                          refine g_iload 9 dX7_best_165 rfl ?_
                                          refine g_iload_n 2 dX7_best_167 rfl rfl ?_
                                          refine g_icmp_ge (tgt := 209) (by unfold R32; omega) (by unfold R32; omega) dX7_best_168 rfl (fun c_23 => ?_) (fun c_23 => ?_)
                                          · refine g_iinc (lv1 := [(8, .int (iI (y1 + 1))), (0, .ref m0), (1, .int (iI w)), (2, .int (iI h)), (3, .int (iI qa)), (4, .int (iI qb)), (5, .int (iI b4)), (6, .int (iI x1)), (7, .int (iI x2)), (9, .int (iI y2))]) 8 dX7_best_209 rfl (by decide) rfl ?_
                                            refine g_goto (tgt := 153) dX7_best_212 rfl ?_
                                            refine g_lv (lv1 := [(0, .ref m0), (1, .int (iI w)), (2, .int (iI h)), (3, .int (iI qa)), (4, .int (iI qb)), (5, .int (iI b4)), (6, .int (iI x1)), (7, .int (iI x2)), (8, .int (iI (y1 + 1)))]) [1, 2, 3, 4, 5, 6, 7, 8, 0] rfl ?_
                                            exact ih153 (y1 + 1) b4 (by omega) (by omega) (by exact ⟨aK_e4 (by omega) (by omega) (by omega) (by omega) hI4.1, hI4.2⟩) (by omega)
                                          · refine g_aload_n 0 dX7_best_171 rfl rfl ?_
                                            refine g_iload_n 1 dX7_best_172 rfl rfl ?_
                                            refine g_iload_n 2 dX7_best_173 rfl rfl ?_
                                            refine g_iload 6 dX7_best_174 rfl ?_
                                            refine g_iload 7 dX7_best_176 rfl ?_
                                            refine g_iload 8 dX7_best_178 rfl ?_
                                            refine g_iload 9 dX7_best_180 rfl ?_
                                            refine g_callV_i (n := 6) (As := [.int (iI w), .int (iI h), .int (iI x1), .int (iI x2), .int (iI y1), .int (iI y2)]) (wr := []) (C := RX7) [] (c_X7_wheel E m0 ra mm nf ti so ta go sl lo cn lx ly pm pi mo w h x1 x2 y1 y2 (by omega) (by omega) (by unfold vN; omega)) [0, 1] [] 0 rfl rfl gX7_best_X7_wheel rfl ⟨rfl, by decide +kernel⟩ ⟨by decide, by decide⟩ rfl rfl rfl rfl rfl (by decide) rfl (by decide) (by decide) (fun _ h => absurd h List.not_mem_nil) dX7_best_182 rfl (Nat.le_of_ble_eq_true rfl) ⟨by decide, by decide⟩ (fun r u p_24 => ?_)
                                            obtain ⟨rfl, rfl⟩ := p_24
                                            have hcp := cP_b hmo w h x1 x2 y1 y2
                                            refine g_istore (lv1 := [(10, .int (iI (cP (tb mo) w h x1 x2 y1 y2))), (0, .ref m0), (1, .int (iI w)), (2, .int (iI h)), (3, .int (iI qa)), (4, .int (iI qb)), (5, .int (iI b4)), (6, .int (iI x1)), (7, .int (iI x2)), (8, .int (iI y1)), (9, .int (iI y2))]) dX7_best_185 (by decide) rfl ?_
                                            refine g_iload 0 dX7_best_187 rfl ?_
                                            refine g_iload 6 dX7_best_189 rfl ?_
                                            refine g_icmp_le (tgt := 199) (by unfold R32; omega) (by unfold R32; omega) dX7_best_191 rfl (fun c_25 => ?_) (fun c_25 => ?_)
                                            · refine g_iload 6 dX7_best_199 rfl ?_
                                              refine g_istore (lv1 := [(5, .int (iI b4)), (10, .int (iI (cP (tb mo) w h x1 x2 y1 y2))), (0, .ref m0), (1, .int (iI w)), (2, .int (iI h)), (3, .int (iI qa)), (4, .int (iI qb)), (6, .int (iI x1)), (7, .int (iI x2)), (8, .int (iI y1)), (9, .int (iI y2))]) dX7_best_201 (by decide) rfl ?_
                                              refine g_iinc (lv1 := [(9, .int (iI (y2 + 1))), (5, .int (iI b4)), (10, .int (iI (cP (tb mo) w h x1 x2 y1 y2))), (0, .ref m0), (1, .int (iI w)), (2, .int (iI h)), (3, .int (iI qa)), (4, .int (iI qb)), (6, .int (iI x1)), (7, .int (iI x2)), (8, .int (iI y1))]) 10 dX7_best_203 rfl (by decide) rfl ?_
                                              refine g_goto (tgt := 165) dX7_best_206 rfl ?_
                                              refine g_lv (lv1 := [(0, .ref m0), (1, .int (iI w)), (2, .int (iI h)), (3, .int (iI qa)), (4, .int (iI qb)), (5, .int (iI b4)), (6, .int (iI x1)), (7, .int (iI x2)), (8, .int (iI y1)), (9, .int (iI (y2 + 1)))]) [3, 4, 5, 6, 7, 1, 8, 9, 10, 0] rfl ?_
                                              exact ih165 (y2 + 1) b4 (by omega) (by omega) (by exact wJ_t (by omega) (by omega) (by unfold vN; omega) hI4 (by omega)) (by omega)
                                            · refine g_iload 0 dX7_best_194 rfl ?_
                                              refine g_goto (tgt := 201) dX7_best_196 rfl ?_
                                              refine g_istore (lv1 := [(5, .int (iI (cP (tb mo) w h x1 x2 y1 y2))), (10, .int (iI (cP (tb mo) w h x1 x2 y1 y2))), (0, .ref m0), (1, .int (iI w)), (2, .int (iI h)), (3, .int (iI qa)), (4, .int (iI qb)), (6, .int (iI x1)), (7, .int (iI x2)), (8, .int (iI y1)), (9, .int (iI y2))]) dX7_best_201 (by decide) rfl ?_
                                              refine g_iinc (lv1 := [(9, .int (iI (y2 + 1))), (5, .int (iI (cP (tb mo) w h x1 x2 y1 y2))), (10, .int (iI (cP (tb mo) w h x1 x2 y1 y2))), (0, .ref m0), (1, .int (iI w)), (2, .int (iI h)), (3, .int (iI qa)), (4, .int (iI qb)), (6, .int (iI x1)), (7, .int (iI x2)), (8, .int (iI y1))]) 10 dX7_best_203 rfl (by decide) rfl ?_
                                              refine g_goto (tgt := 165) dX7_best_206 rfl ?_
                                              refine g_lv (lv1 := [(0, .ref m0), (1, .int (iI w)), (2, .int (iI h)), (3, .int (iI qa)), (4, .int (iI qb)), (5, .int (iI (cP (tb mo) w h x1 x2 y1 y2))), (6, .int (iI x1)), (7, .int (iI x2)), (8, .int (iI y1)), (9, .int (iI (y2 + 1)))]) [3, 4, 5, 6, 7, 1, 8, 9, 10, 0] rfl ?_
                                              exact ih165 (y2 + 1) (cP (tb mo) w h x1 x2 y1 y2) (by omega) (by omega) (by exact wJ_t (by omega) (by omega) (by unfold vN; omega) hI4 (by omega)) (by omega)
                                      exact L165 _ (y1 + 1) b3 (by omega) (by omega) (by exact ⟨aK_y2 (hy := by omega) (by omega) (by omega) (by omega) hI3.1, hI3.2⟩) (lt_nn _)
                                exact L153 _ 1 b2 (by omega) (by omega) (by exact ⟨aK_y1  (by omega) (by omega) (by omega) hI2.1, hI2.2⟩) (lt_nn _)
                          exact L144 _ (x1 + 1) b1 (by omega) (by omega) (by exact ⟨aK_x2  (by omega) (by omega) (by omega) hI1.1, hI1.2⟩) (lt_nn _)
                    exact L132 _ 1 v2 (by omega) (by omega) (by exact ⟨aK_0 (by omega) (by omega) (by omega), by omega, Or.inl rfl⟩) (lt_nn _)
                  · refine g_aload_n 0 dX7_best_88 rfl rfl ?_
                    refine g_iload_n 1 dX7_best_89 rfl rfl ?_
                    refine g_iload 6 dX7_best_90 rfl ?_
                    refine g_callV_i (n := 2) (As := [.int (iI w), .int (iI j)]) (wr := []) (C := RX7) [] (c_X7_mostOf E m0 ra mm nf ti so ta go sl lo cn lx ly pm pi mo w j (by omega) (by omega)) [0, 1] [] 0 rfl rfl gX7_best_X7_mostOf rfl ⟨rfl, by decide +kernel⟩ ⟨by decide, by decide⟩ rfl rfl rfl rfl rfl (by decide) rfl (by decide) (by decide) (fun _ h => absurd h List.not_mem_nil) dX7_best_92 rfl (Nat.le_of_ble_eq_true rfl) ⟨by decide, by decide⟩ (fun r u p_26 => ?_)
                    obtain ⟨rfl, rfl⟩ := p_26
                    have ht1 := tb_b hmo w j
                    refine g_aload_n 0 dX7_best_95 rfl rfl ?_
                    refine g_iload_n 1 dX7_best_96 rfl rfl ?_
                    refine g_iload_n 2 dX7_best_97 rfl rfl ?_
                    refine g_iload 6 dX7_best_98 rfl ?_
                    refine g_isub dX7_best_100 ?_
                    refine g_callV_i (n := 2) (As := [.int (iI w), .int (iI (h - j))]) (wr := []) (C := RX7) [.int (iI (tb mo w j))] (c_X7_mostOf E m0 ra mm nf ti so ta go sl lo cn lx ly pm pi mo w (h - j) (by omega) (by omega)) [0, 1] [] 0 rfl rfl gX7_best_X7_mostOf rfl ⟨rfl, by decide +kernel⟩ ⟨by decide, by decide⟩ rfl rfl rfl rfl rfl (by decide) rfl (by decide) (by decide) (fun _ h => absurd h List.not_mem_nil) dX7_best_101 rfl (Nat.le_of_ble_eq_true rfl) ⟨by decide, by decide⟩ (fun r u p_27 => ?_)
                    obtain ⟨rfl, rfl⟩ := p_27
                    have ht2 := tb_b hmo w (h - j)
                    refine g_iadd dX7_best_104 ?_
                    refine g_istore (lv1 := [(7, .int (iI ((tb mo w j) + (tb mo w (h - j))))), (0, .ref m0), (1, .int (iI w)), (2, .int (iI h)), (3, .int (iI qa)), (4, .int (iI qb)), (5, .int (iI v2)), (6, .int (iI j))]) dX7_best_105 (by decide) rfl ?_
                    refine g_iload 0 dX7_best_107 rfl ?_
                    refine g_iload 6 dX7_best_109 rfl ?_
                    refine g_icmp_le (tgt := 119) (by unfold R32; omega) (by unfold R32; omega) dX7_best_111 rfl (fun c_28 => ?_) (fun c_28 => ?_)
                    · refine g_iload 6 dX7_best_119 rfl ?_
                      refine g_istore (lv1 := [(5, .int (iI v2)), (7, .int (iI ((tb mo w j) + (tb mo w (h - j))))), (0, .ref m0), (1, .int (iI w)), (2, .int (iI h)), (3, .int (iI qa)), (4, .int (iI qb)), (6, .int (iI j))]) dX7_best_121 (by decide) rfl ?_
                      refine g_iinc (lv1 := [(6, .int (iI (j + 1))), (5, .int (iI v2)), (7, .int (iI ((tb mo w j) + (tb mo w (h - j))))), (0, .ref m0), (1, .int (iI w)), (2, .int (iI h)), (3, .int (iI qa)), (4, .int (iI qb))]) 7 dX7_best_123 rfl (by decide) rfl ?_
                      refine g_goto (tgt := 82) dX7_best_126 rfl ?_
                      refine g_lv (lv1 := [(0, .ref m0), (1, .int (iI w)), (2, .int (iI h)), (3, .int (iI qa)), (4, .int (iI qb)), (5, .int (iI v2)), (6, .int (iI (j + 1)))]) [3, 4, 5, 6, 7, 1, 0] rfl ?_
                      exact ih82 (j + 1) v2 (by omega) (by omega) (by exact kI_t (by omega) hK2 (by unfold cL; omega)) (by omega)
                    · refine g_iload 0 dX7_best_114 rfl ?_
                      refine g_goto (tgt := 121) dX7_best_116 rfl ?_
                      refine g_istore (lv1 := [(5, .int (iI ((tb mo w j) + (tb mo w (h - j))))), (7, .int (iI ((tb mo w j) + (tb mo w (h - j))))), (0, .ref m0), (1, .int (iI w)), (2, .int (iI h)), (3, .int (iI qa)), (4, .int (iI qb)), (6, .int (iI j))]) dX7_best_121 (by decide) rfl ?_
                      refine g_iinc (lv1 := [(6, .int (iI (j + 1))), (5, .int (iI ((tb mo w j) + (tb mo w (h - j))))), (7, .int (iI ((tb mo w j) + (tb mo w (h - j))))), (0, .ref m0), (1, .int (iI w)), (2, .int (iI h)), (3, .int (iI qa)), (4, .int (iI qb))]) 7 dX7_best_123 rfl (by decide) rfl ?_
                      refine g_goto (tgt := 82) dX7_best_126 rfl ?_
                      refine g_lv (lv1 := [(0, .ref m0), (1, .int (iI w)), (2, .int (iI h)), (3, .int (iI qa)), (4, .int (iI qb)), (5, .int (iI ((tb mo w j) + (tb mo w (h - j))))), (6, .int (iI (j + 1)))]) [3, 4, 5, 6, 7, 1, 0] rfl ?_
                      exact ih82 (j + 1) ((tb mo w j) + (tb mo w (h - j))) (by omega) (by omega) (by exact kI_t (by omega) hK2 (by unfold cL; omega)) (by omega)
              exact L82 _ 1 v1 (by omega) (by omega) (by exact kI_1 _ _) (lt_nn _)
            · refine g_aload_n 0 dX7_best_38 rfl rfl ?_
              refine g_iload 6 dX7_best_39 rfl ?_
              refine g_iload_n 2 dX7_best_41 rfl rfl ?_
              refine g_callV_i (n := 2) (As := [.int (iI k), .int (iI h)]) (wr := []) (C := RX7) [] (c_X7_mostOf E m0 ra mm nf ti so ta go sl lo cn lx ly pm pi mo k h (by omega) (by omega)) [0, 1] [] 0 rfl rfl gX7_best_X7_mostOf rfl ⟨rfl, by decide +kernel⟩ ⟨by decide, by decide⟩ rfl rfl rfl rfl rfl (by decide) rfl (by decide) (by decide) (fun _ h => absurd h List.not_mem_nil) dX7_best_42 rfl (Nat.le_of_ble_eq_true rfl) ⟨by decide, by decide⟩ (fun r u p_29 => ?_)
              obtain ⟨rfl, rfl⟩ := p_29
              have ht1 := tb_b hmo k h
              refine g_aload_n 0 dX7_best_45 rfl rfl ?_
              refine g_iload_n 1 dX7_best_46 rfl rfl ?_
              refine g_iload 6 dX7_best_47 rfl ?_
              refine g_isub dX7_best_49 ?_
              refine g_iload_n 2 dX7_best_50 rfl rfl ?_
              refine g_callV_i (n := 2) (As := [.int (iI (w - k)), .int (iI h)]) (wr := []) (C := RX7) [.int (iI (tb mo k h))] (c_X7_mostOf E m0 ra mm nf ti so ta go sl lo cn lx ly pm pi mo (w - k) h (by omega) (by omega)) [0, 1] [] 0 rfl rfl gX7_best_X7_mostOf rfl ⟨rfl, by decide +kernel⟩ ⟨by decide, by decide⟩ rfl rfl rfl rfl rfl (by decide) rfl (by decide) (by decide) (fun _ h => absurd h List.not_mem_nil) dX7_best_51 rfl (Nat.le_of_ble_eq_true rfl) ⟨by decide, by decide⟩ (fun r u p_30 => ?_)
              obtain ⟨rfl, rfl⟩ := p_30
              have ht2 := tb_b hmo (w - k) h
              refine g_iadd dX7_best_54 ?_
              refine g_istore (lv1 := [(7, .int (iI ((tb mo k h) + (tb mo (w - k) h)))), (0, .ref m0), (1, .int (iI w)), (2, .int (iI h)), (3, .int (iI qa)), (4, .int (iI qb)), (5, .int (iI v1)), (6, .int (iI k))]) dX7_best_55 (by decide) rfl ?_
              refine g_iload 0 dX7_best_57 rfl ?_
              refine g_iload 6 dX7_best_59 rfl ?_
              refine g_icmp_le (tgt := 69) (by unfold R32; omega) (by unfold R32; omega) dX7_best_61 rfl (fun c_31 => ?_) (fun c_31 => ?_)
              · refine g_iload 6 dX7_best_69 rfl ?_
                refine g_istore (lv1 := [(5, .int (iI v1)), (7, .int (iI ((tb mo k h) + (tb mo (w - k) h)))), (0, .ref m0), (1, .int (iI w)), (2, .int (iI h)), (3, .int (iI qa)), (4, .int (iI qb)), (6, .int (iI k))]) dX7_best_71 (by decide) rfl ?_
                refine g_iinc (lv1 := [(6, .int (iI (k + 1))), (5, .int (iI v1)), (7, .int (iI ((tb mo k h) + (tb mo (w - k) h)))), (0, .ref m0), (1, .int (iI w)), (2, .int (iI h)), (3, .int (iI qa)), (4, .int (iI qb))]) 7 dX7_best_73 rfl (by decide) rfl ?_
                refine g_goto (tgt := 32) dX7_best_76 rfl ?_
                refine g_lv (lv1 := [(0, .ref m0), (1, .int (iI w)), (2, .int (iI h)), (3, .int (iI qa)), (4, .int (iI qb)), (5, .int (iI v1)), (6, .int (iI (k + 1)))]) [3, 4, 5, 6, 7, 1, 0] rfl ?_
                exact ih32 (k + 1) v1 (by omega) (by omega) (by exact kI_t (by omega) hK1 (by unfold cU; omega)) (by omega)
              · refine g_iload 0 dX7_best_64 rfl ?_
                refine g_goto (tgt := 71) dX7_best_66 rfl ?_
                refine g_istore (lv1 := [(5, .int (iI ((tb mo k h) + (tb mo (w - k) h)))), (7, .int (iI ((tb mo k h) + (tb mo (w - k) h)))), (0, .ref m0), (1, .int (iI w)), (2, .int (iI h)), (3, .int (iI qa)), (4, .int (iI qb)), (6, .int (iI k))]) dX7_best_71 (by decide) rfl ?_
                refine g_iinc (lv1 := [(6, .int (iI (k + 1))), (5, .int (iI ((tb mo k h) + (tb mo (w - k) h)))), (7, .int (iI ((tb mo k h) + (tb mo (w - k) h)))), (0, .ref m0), (1, .int (iI w)), (2, .int (iI h)), (3, .int (iI qa)), (4, .int (iI qb))]) 7 dX7_best_73 rfl (by decide) rfl ?_
                refine g_goto (tgt := 32) dX7_best_76 rfl ?_
                refine g_lv (lv1 := [(0, .ref m0), (1, .int (iI w)), (2, .int (iI h)), (3, .int (iI qa)), (4, .int (iI qb)), (5, .int (iI ((tb mo k h) + (tb mo (w - k) h)))), (6, .int (iI (k + 1)))]) [3, 4, 5, 6, 7, 1, 0] rfl ?_
                exact ih32 (k + 1) ((tb mo k h) + (tb mo (w - k) h)) (by omega) (by omega) (by exact kI_t (by omega) hK1 (by unfold cU; omega)) (by omega)
        exact L32 _ 1 (bs qa qb w h) (by omega) (by omega) (by exact kI_1 _ _) (lt_nn _)
      · refine g_iconst dX7_best_22 ?_
        refine g_goto (tgt := 27) dX7_best_23 rfl ?_
        have hbs := bs_01 qa qb w h
        refine g_top (y := iI (bs qa qb w h)) (congrArg iI (by unfold bs; first | (rw [if_pos (by omega)]; done) | (rw [if_neg (by omega)]; done))) ?_
        refine g_istore (lv1 := [(5, .int (iI (bs qa qb w h))), (0, .ref m0), (1, .int (iI w)), (2, .int (iI h)), (3, .int (iI qa)), (4, .int (iI qb))]) dX7_best_27 (by decide) rfl ?_
        refine g_iconst dX7_best_29 ?_
        refine g_istore (lv1 := [(6, .int (iI 1)), (5, .int (iI (bs qa qb w h))), (0, .ref m0), (1, .int (iI w)), (2, .int (iI h)), (3, .int (iI qa)), (4, .int (iI qb))]) dX7_best_30 (by decide) rfl ?_
        refine g_lv (lv1 := [(0, .ref m0), (1, .int (iI w)), (2, .int (iI h)), (3, .int (iI qa)), (4, .int (iI qb)), (5, .int (iI (bs qa qb w h))), (6, .int (iI 1))]) [2, 3, 4, 5, 6, 1, 0] rfl ?_
        have L32 : ∀ (nn : Nat) (k : Int) (v1 : Int) (hk : 1 ≤ k ∧ k ≤ w) (hv1 : 0 ≤ v1 ∧ v1 ≤ 720) (hK1 : kI (bs qa qb w h) (cU (tb mo) w h) k v1) (hm : w - k < (nn : Int)), G X ({ frames := 2, cells := 0, slots := 0, locals := 48 } : Room) cX7_best 11 RX7 wsX7_best E [] 0 0 [(m0, oo 7 (fMo ra mm nf ti so ta go sl lo cn lx ly pm pi)), (ra 37, aI E 169 mo)] [(0, .ref m0), (1, .int (iI w)), (2, .int (iI h)), (3, .int (iI qa)), (4, .int (iI qb)), (5, .int (iI v1)), (6, .int (iI k))] 32 [] := by
          intro nn
          induction nn with
          | zero => intro k v1 hk hv1 hK1 hm; exfalso; omega
          | succ nn ih32 =>
            intro k v1 hk hv1 hK1 hm
            refine g_iload 6 dX7_best_32 rfl ?_
            refine g_iload_n 1 dX7_best_34 rfl rfl ?_
            refine g_icmp_ge (tgt := 79) (by unfold R32; omega) (by unfold R32; omega) dX7_best_35 rfl (fun c_32 => ?_) (fun c_32 => ?_)
            · refine g_iconst dX7_best_79 ?_
              refine g_istore (lv1 := [(6, .int (iI 1)), (0, .ref m0), (1, .int (iI w)), (2, .int (iI h)), (3, .int (iI qa)), (4, .int (iI qb)), (5, .int (iI v1))]) dX7_best_80 (by decide) rfl ?_
              refine g_lv (lv1 := [(0, .ref m0), (1, .int (iI w)), (2, .int (iI h)), (3, .int (iI qa)), (4, .int (iI qb)), (5, .int (iI v1)), (6, .int (iI 1))]) [1, 2, 3, 4, 5, 6, 0] rfl ?_
              have L82 : ∀ (nn : Nat) (j : Int) (v2 : Int) (hj : 1 ≤ j ∧ j ≤ h) (hv2 : 0 ≤ v2 ∧ v2 ≤ 720) (hK2 : kI v1 (cL (tb mo) w h) j v2) (hm : h - j < (nn : Int)), G X ({ frames := 2, cells := 0, slots := 0, locals := 48 } : Room) cX7_best 11 RX7 wsX7_best E [] 0 0 [(m0, oo 7 (fMo ra mm nf ti so ta go sl lo cn lx ly pm pi)), (ra 37, aI E 169 mo)] [(0, .ref m0), (1, .int (iI w)), (2, .int (iI h)), (3, .int (iI qa)), (4, .int (iI qb)), (5, .int (iI v2)), (6, .int (iI j))] 82 [] := by
                intro nn
                induction nn with
                | zero => intro j v2 hj hv2 hK2 hm; exfalso; omega
                | succ nn ih82 =>
                  intro j v2 hj hv2 hK2 hm
                  refine g_iload 6 dX7_best_82 rfl ?_
                  refine g_iload_n 2 dX7_best_84 rfl rfl ?_
                  refine g_icmp_ge (tgt := 129) (by unfold R32; omega) (by unfold R32; omega) dX7_best_85 rfl (fun c_33 => ?_) (fun c_33 => ?_)
                  · refine g_iconst dX7_best_129 ?_
                    refine g_istore (lv1 := [(6, .int (iI 1)), (0, .ref m0), (1, .int (iI w)), (2, .int (iI h)), (3, .int (iI qa)), (4, .int (iI qb)), (5, .int (iI v2))]) dX7_best_130 (by decide) rfl ?_
                    refine g_lv (lv1 := [(0, .ref m0), (1, .int (iI w)), (2, .int (iI h)), (3, .int (iI qa)), (4, .int (iI qb)), (5, .int (iI v2)), (6, .int (iI 1))]) [1, 2, 3, 4, 5, 6, 0] rfl ?_
                    have L132 : ∀ (nn : Nat) (x1 : Int) (b1 : Int) (hx1 : 1 ≤ x1 ∧ x1 ≤ 12) (hb1 : 0 ≤ b1 ∧ b1 ≤ 720) (hI1 : wJ (tb mo) w h (4096 * x1) v2 b1) (hm : 12 - x1 < (nn : Int)), G X ({ frames := 2, cells := 0, slots := 0, locals := 48 } : Room) cX7_best 11 RX7 wsX7_best E [] 0 0 [(m0, oo 7 (fMo ra mm nf ti so ta go sl lo cn lx ly pm pi)), (ra 37, aI E 169 mo)] [(0, .ref m0), (1, .int (iI w)), (2, .int (iI h)), (3, .int (iI qa)), (4, .int (iI qb)), (5, .int (iI b1)), (6, .int (iI x1))] 132 [] := by
                      intro nn
                      induction nn with
                      | zero => intro x1 b1 hx1 hb1 hI1 hm; exfalso; omega
                      | succ nn ih132 =>
                        intro x1 b1 hx1 hb1 hI1 hm
                        have hS : isS qa qb (tb mo) w h v2 := kI_S (show k = w by omega) (show j = h by omega) hK1 hK2
                        refine g_iload 6 dX7_best_132 rfl ?_
                        refine g_iload_n 1 dX7_best_134 rfl rfl ?_
                        refine g_icmp_ge (tgt := 227) (by unfold R32; omega) (by unfold R32; omega) dX7_best_135 rfl (fun c_34 => ?_) (fun c_34 => ?_)
                        · refine g_iload 5 dX7_best_227 rfl ?_
                          exact g_iret hRet dX7_best_229 rfl ⟨b1, (by exact isB_all hS (by omega) hI1.1 hI1.2.1 hI1.2.2 (by omega) (by omega)), rfl, rfl⟩
                        · refine g_iload 6 dX7_best_138 rfl ?_
                          refine g_iconst dX7_best_140 ?_
                          refine g_iadd dX7_best_141 ?_
                          refine g_istore (lv1 := [(7, .int (iI (x1 + 1))), (0, .ref m0), (1, .int (iI w)), (2, .int (iI h)), (3, .int (iI qa)), (4, .int (iI qb)), (5, .int (iI b1)), (6, .int (iI x1))]) dX7_best_142 (by decide) rfl ?_
                          refine g_lv (lv1 := [(0, .ref m0), (1, .int (iI w)), (2, .int (iI h)), (3, .int (iI qa)), (4, .int (iI qb)), (5, .int (iI b1)), (6, .int (iI x1)), (7, .int (iI (x1 + 1)))]) [1, 2, 3, 4, 5, 6, 7, 0] rfl ?_
                          have L144 : ∀ (nn : Nat) (x2 : Int) (b2 : Int) (hx2 : x1 < x2 ∧ x2 ≤ 12) (hb2 : 0 ≤ b2 ∧ b2 ≤ 720) (hI2 : wJ (tb mo) w h (4096 * x1 + 256 * x2) v2 b2) (hm : 12 - x2 < (nn : Int)), G X ({ frames := 2, cells := 0, slots := 0, locals := 48 } : Room) cX7_best 11 RX7 wsX7_best E [] 0 0 [(m0, oo 7 (fMo ra mm nf ti so ta go sl lo cn lx ly pm pi)), (ra 37, aI E 169 mo)] [(0, .ref m0), (1, .int (iI w)), (2, .int (iI h)), (3, .int (iI qa)), (4, .int (iI qb)), (5, .int (iI b2)), (6, .int (iI x1)), (7, .int (iI x2))] 144 [] := by
                            intro nn
                            induction nn with
                            | zero => intro x2 b2 hx2 hb2 hI2 hm; exfalso; omega
                            | succ nn ih144 =>
                              intro x2 b2 hx2 hb2 hI2 hm
                              refine g_iload 7 dX7_best_144 rfl ?_
                              refine g_iload_n 1 dX7_best_146 rfl rfl ?_
                              refine g_icmp_ge (tgt := 221) (by unfold R32; omega) (by unfold R32; omega) dX7_best_147 rfl (fun c_35 => ?_) (fun c_35 => ?_)
                              · refine g_iinc (lv1 := [(6, .int (iI (x1 + 1))), (0, .ref m0), (1, .int (iI w)), (2, .int (iI h)), (3, .int (iI qa)), (4, .int (iI qb)), (5, .int (iI b2)), (7, .int (iI x2))]) 6 dX7_best_221 rfl (by decide) rfl ?_
                                refine g_goto (tgt := 132) dX7_best_224 rfl ?_
                                refine g_lv (lv1 := [(0, .ref m0), (1, .int (iI w)), (2, .int (iI h)), (3, .int (iI qa)), (4, .int (iI qb)), (5, .int (iI b2)), (6, .int (iI (x1 + 1)))]) [1, 2, 3, 4, 5, 6, 0] rfl ?_
                                exact ih132 (x1 + 1) b2 (by omega) (by omega) (by exact ⟨aK_e2 (by omega) (by omega) (by omega) (by omega) hI2.1, hI2.2⟩) (by omega)
                              · refine g_iconst dX7_best_150 ?_
                                refine g_istore (lv1 := [(8, .int (iI 1)), (0, .ref m0), (1, .int (iI w)), (2, .int (iI h)), (3, .int (iI qa)), (4, .int (iI qb)), (5, .int (iI b2)), (6, .int (iI x1)), (7, .int (iI x2))]) dX7_best_151 (by decide) rfl ?_
                                refine g_lv (lv1 := [(0, .ref m0), (1, .int (iI w)), (2, .int (iI h)), (3, .int (iI qa)), (4, .int (iI qb)), (5, .int (iI b2)), (6, .int (iI x1)), (7, .int (iI x2)), (8, .int (iI 1))]) [1, 2, 3, 4, 5, 6, 7, 8, 0] rfl ?_
                                have L153 : ∀ (nn : Nat) (y1 : Int) (b3 : Int) (hx3 : 1 ≤ y1 ∧ y1 ≤ 12) (hb3 : 0 ≤ b3 ∧ b3 ≤ 720) (hI3 : wJ (tb mo) w h (4096 * x1 + 256 * x2 + 16 * y1) v2 b3) (hm : 12 - y1 < (nn : Int)), G X ({ frames := 2, cells := 0, slots := 0, locals := 48 } : Room) cX7_best 11 RX7 wsX7_best E [] 0 0 [(m0, oo 7 (fMo ra mm nf ti so ta go sl lo cn lx ly pm pi)), (ra 37, aI E 169 mo)] [(0, .ref m0), (1, .int (iI w)), (2, .int (iI h)), (3, .int (iI qa)), (4, .int (iI qb)), (5, .int (iI b3)), (6, .int (iI x1)), (7, .int (iI x2)), (8, .int (iI y1))] 153 [] := by
                                  intro nn
                                  induction nn with
                                  | zero => intro y1 b3 hx3 hb3 hI3 hm; exfalso; omega
                                  | succ nn ih153 =>
                                    intro y1 b3 hx3 hb3 hI3 hm
                                    refine g_iload 8 dX7_best_153 rfl ?_
                                    refine g_iload_n 2 dX7_best_155 rfl rfl ?_
                                    refine g_icmp_ge (tgt := 215) (by unfold R32; omega) (by unfold R32; omega) dX7_best_156 rfl (fun c_36 => ?_) (fun c_36 => ?_)
                                    · refine g_iinc (lv1 := [(7, .int (iI (x2 + 1))), (0, .ref m0), (1, .int (iI w)), (2, .int (iI h)), (3, .int (iI qa)), (4, .int (iI qb)), (5, .int (iI b3)), (6, .int (iI x1)), (8, .int (iI y1))]) 7 dX7_best_215 rfl (by decide) rfl ?_
                                      refine g_goto (tgt := 144) dX7_best_218 rfl ?_
                                      refine g_lv (lv1 := [(0, .ref m0), (1, .int (iI w)), (2, .int (iI h)), (3, .int (iI qa)), (4, .int (iI qb)), (5, .int (iI b3)), (6, .int (iI x1)), (7, .int (iI (x2 + 1)))]) [1, 2, 3, 4, 5, 6, 7, 0] rfl ?_
                                      exact ih144 (x2 + 1) b3 (by omega) (by omega) (by exact ⟨aK_e3 (by omega) (by omega) (by omega) (by omega) hI3.1, hI3.2⟩) (by omega)
                                    · refine g_iload 8 dX7_best_159 rfl ?_
                                      refine g_iconst dX7_best_161 ?_
                                      refine g_iadd dX7_best_162 ?_
                                      refine g_istore (lv1 := [(9, .int (iI (y1 + 1))), (0, .ref m0), (1, .int (iI w)), (2, .int (iI h)), (3, .int (iI qa)), (4, .int (iI qb)), (5, .int (iI b3)), (6, .int (iI x1)), (7, .int (iI x2)), (8, .int (iI y1))]) dX7_best_163 (by decide) rfl ?_
                                      refine g_lv (lv1 := [(0, .ref m0), (1, .int (iI w)), (2, .int (iI h)), (3, .int (iI qa)), (4, .int (iI qb)), (5, .int (iI b3)), (6, .int (iI x1)), (7, .int (iI x2)), (8, .int (iI y1)), (9, .int (iI (y1 + 1)))]) [1, 2, 3, 4, 5, 6, 7, 8, 9, 0] rfl ?_
                                      have L165 : ∀ (nn : Nat) (y2 : Int) (b4 : Int) (hx4 : y1 < y2 ∧ y2 ≤ 12) (hb4 : 0 ≤ b4 ∧ b4 ≤ 720) (hI4 : wJ (tb mo) w h (4096 * x1 + 256 * x2 + 16 * y1 + y2) v2 b4) (hm : 12 - y2 < (nn : Int)), G X ({ frames := 2, cells := 0, slots := 0, locals := 48 } : Room) cX7_best 11 RX7 wsX7_best E [] 0 0 [(m0, oo 7 (fMo ra mm nf ti so ta go sl lo cn lx ly pm pi)), (ra 37, aI E 169 mo)] [(0, .ref m0), (1, .int (iI w)), (2, .int (iI h)), (3, .int (iI qa)), (4, .int (iI qb)), (5, .int (iI b4)), (6, .int (iI x1)), (7, .int (iI x2)), (8, .int (iI y1)), (9, .int (iI y2))] 165 [] := by
                                        intro nn
                                        induction nn with
                                        | zero => intro y2 b4 hx4 hb4 hI4 hm; exfalso; omega
                                        | succ nn ih165 =>
                                          intro y2 b4 hx4 hb4 hI4 hm
                                          refine g_iload 9 dX7_best_165 rfl ?_
                                          refine g_iload_n 2 dX7_best_167 rfl rfl ?_
                                          refine g_icmp_ge (tgt := 209) (by unfold R32; omega) (by unfold R32; omega) dX7_best_168 rfl (fun c_37 => ?_) (fun c_37 => ?_)
                                          · refine g_iinc (lv1 := [(8, .int (iI (y1 + 1))), (0, .ref m0), (1, .int (iI w)), (2, .int (iI h)), (3, .int (iI qa)), (4, .int (iI qb)), (5, .int (iI b4)), (6, .int (iI x1)), (7, .int (iI x2)), (9, .int (iI y2))]) 8 dX7_best_209 rfl (by decide) rfl ?_
                                            refine g_goto (tgt := 153) dX7_best_212 rfl ?_
                                            refine g_lv (lv1 := [(0, .ref m0), (1, .int (iI w)), (2, .int (iI h)), (3, .int (iI qa)), (4, .int (iI qb)), (5, .int (iI b4)), (6, .int (iI x1)), (7, .int (iI x2)), (8, .int (iI (y1 + 1)))]) [1, 2, 3, 4, 5, 6, 7, 8, 0] rfl ?_
                                            exact ih153 (y1 + 1) b4 (by omega) (by omega) (by exact ⟨aK_e4 (by omega) (by omega) (by omega) (by omega) hI4.1, hI4.2⟩) (by omega)
                                          · refine g_aload_n 0 dX7_best_171 rfl rfl ?_
                                            refine g_iload_n 1 dX7_best_172 rfl rfl ?_
                                            refine g_iload_n 2 dX7_best_173 rfl rfl ?_
                                            refine g_iload 6 dX7_best_174 rfl ?_
                                            refine g_iload 7 dX7_best_176 rfl ?_
                                            refine g_iload 8 dX7_best_178 rfl ?_
                                            refine g_iload 9 dX7_best_180 rfl ?_
                                            refine g_callV_i (n := 6) (As := [.int (iI w), .int (iI h), .int (iI x1), .int (iI x2), .int (iI y1), .int (iI y2)]) (wr := []) (C := RX7) [] (c_X7_wheel E m0 ra mm nf ti so ta go sl lo cn lx ly pm pi mo w h x1 x2 y1 y2 (by omega) (by omega) (by unfold vN; omega)) [0, 1] [] 0 rfl rfl gX7_best_X7_wheel rfl ⟨rfl, by decide +kernel⟩ ⟨by decide, by decide⟩ rfl rfl rfl rfl rfl (by decide) rfl (by decide) (by decide) (fun _ h => absurd h List.not_mem_nil) dX7_best_182 rfl (Nat.le_of_ble_eq_true rfl) ⟨by decide, by decide⟩ (fun r u p_38 => ?_)
                                            obtain ⟨rfl, rfl⟩ := p_38
                                            have hcp := cP_b hmo w h x1 x2 y1 y2
                                            refine g_istore (lv1 := [(10, .int (iI (cP (tb mo) w h x1 x2 y1 y2))), (0, .ref m0), (1, .int (iI w)), (2, .int (iI h)), (3, .int (iI qa)), (4, .int (iI qb)), (5, .int (iI b4)), (6, .int (iI x1)), (7, .int (iI x2)), (8, .int (iI y1)), (9, .int (iI y2))]) dX7_best_185 (by decide) rfl ?_
                                            refine g_iload 0 dX7_best_187 rfl ?_
                                            refine g_iload 6 dX7_best_189 rfl ?_
                                            refine g_icmp_le (tgt := 199) (by unfold R32; omega) (by unfold R32; omega) dX7_best_191 rfl (fun c_39 => ?_) (fun c_39 => ?_)
                                            · refine g_iload 6 dX7_best_199 rfl ?_
                                              refine g_istore (lv1 := [(5, .int (iI b4)), (10, .int (iI (cP (tb mo) w h x1 x2 y1 y2))), (0, .ref m0), (1, .int (iI w)), (2, .int (iI h)), (3, .int (iI qa)), (4, .int (iI qb)), (6, .int (iI x1)), (7, .int (iI x2)), (8, .int (iI y1)), (9, .int (iI y2))]) dX7_best_201 (by decide) rfl ?_
                                              refine g_iinc (lv1 := [(9, .int (iI (y2 + 1))), (5, .int (iI b4)), (10, .int (iI (cP (tb mo) w h x1 x2 y1 y2))), (0, .ref m0), (1, .int (iI w)), (2, .int (iI h)), (3, .int (iI qa)), (4, .int (iI qb)), (6, .int (iI x1)), (7, .int (iI x2)), (8, .int (iI y1))]) 10 dX7_best_203 rfl (by decide) rfl ?_
                                              refine g_goto (tgt := 165) dX7_best_206 rfl ?_
                                              refine g_lv (lv1 := [(0, .ref m0), (1, .int (iI w)), (2, .int (iI h)), (3, .int (iI qa)), (4, .int (iI qb)), (5, .int (iI b4)), (6, .int (iI x1)), (7, .int (iI x2)), (8, .int (iI y1)), (9, .int (iI (y2 + 1)))]) [3, 4, 5, 6, 7, 1, 8, 9, 10, 0] rfl ?_
                                              exact ih165 (y2 + 1) b4 (by omega) (by omega) (by exact wJ_t (by omega) (by omega) (by unfold vN; omega) hI4 (by omega)) (by omega)
                                            · refine g_iload 0 dX7_best_194 rfl ?_
                                              refine g_goto (tgt := 201) dX7_best_196 rfl ?_
                                              refine g_istore (lv1 := [(5, .int (iI (cP (tb mo) w h x1 x2 y1 y2))), (10, .int (iI (cP (tb mo) w h x1 x2 y1 y2))), (0, .ref m0), (1, .int (iI w)), (2, .int (iI h)), (3, .int (iI qa)), (4, .int (iI qb)), (6, .int (iI x1)), (7, .int (iI x2)), (8, .int (iI y1)), (9, .int (iI y2))]) dX7_best_201 (by decide) rfl ?_
                                              refine g_iinc (lv1 := [(9, .int (iI (y2 + 1))), (5, .int (iI (cP (tb mo) w h x1 x2 y1 y2))), (10, .int (iI (cP (tb mo) w h x1 x2 y1 y2))), (0, .ref m0), (1, .int (iI w)), (2, .int (iI h)), (3, .int (iI qa)), (4, .int (iI qb)), (6, .int (iI x1)), (7, .int (iI x2)), (8, .int (iI y1))]) 10 dX7_best_203 rfl (by decide) rfl ?_
                                              refine g_goto (tgt := 165) dX7_best_206 rfl ?_
                                              refine g_lv (lv1 := [(0, .ref m0), (1, .int (iI w)), (2, .int (iI h)), (3, .int (iI qa)), (4, .int (iI qb)), (5, .int (iI (cP (tb mo) w h x1 x2 y1 y2))), (6, .int (iI x1)), (7, .int (iI x2)), (8, .int (iI y1)), (9, .int (iI (y2 + 1)))]) [3, 4, 5, 6, 7, 1, 8, 9, 10, 0] rfl ?_
                                              exact ih165 (y2 + 1) (cP (tb mo) w h x1 x2 y1 y2) (by omega) (by omega) (by exact wJ_t (by omega) (by omega) (by unfold vN; omega) hI4 (by omega)) (by omega)
                                      exact L165 _ (y1 + 1) b3 (by omega) (by omega) (by exact ⟨aK_y2 (hy := by omega) (by omega) (by omega) (by omega) hI3.1, hI3.2⟩) (lt_nn _)
                                exact L153 _ 1 b2 (by omega) (by omega) (by exact ⟨aK_y1  (by omega) (by omega) (by omega) hI2.1, hI2.2⟩) (lt_nn _)
                          exact L144 _ (x1 + 1) b1 (by omega) (by omega) (by exact ⟨aK_x2  (by omega) (by omega) (by omega) hI1.1, hI1.2⟩) (lt_nn _)
                    exact L132 _ 1 v2 (by omega) (by omega) (by exact ⟨aK_0 (by omega) (by omega) (by omega), by omega, Or.inl rfl⟩) (lt_nn _)
                  · refine g_aload_n 0 dX7_best_88 rfl rfl ?_
                    refine g_iload_n 1 dX7_best_89 rfl rfl ?_
                    refine g_iload 6 dX7_best_90 rfl ?_
                    refine g_callV_i (n := 2) (As := [.int (iI w), .int (iI j)]) (wr := []) (C := RX7) [] (c_X7_mostOf E m0 ra mm nf ti so ta go sl lo cn lx ly pm pi mo w j (by omega) (by omega)) [0, 1] [] 0 rfl rfl gX7_best_X7_mostOf rfl ⟨rfl, by decide +kernel⟩ ⟨by decide, by decide⟩ rfl rfl rfl rfl rfl (by decide) rfl (by decide) (by decide) (fun _ h => absurd h List.not_mem_nil) dX7_best_92 rfl (Nat.le_of_ble_eq_true rfl) ⟨by decide, by decide⟩ (fun r u p_40 => ?_)
                    obtain ⟨rfl, rfl⟩ := p_40
                    have ht1 := tb_b hmo w j
                    refine g_aload_n 0 dX7_best_95 rfl rfl ?_
                    refine g_iload_n 1 dX7_best_96 rfl rfl ?_
                    refine g_iload_n 2 dX7_best_97 rfl rfl ?_
                    refine g_iload 6 dX7_best_98 rfl ?_
                    refine g_isub dX7_best_100 ?_
                    refine g_callV_i (n := 2) (As := [.int (iI w), .int (iI (h - j))]) (wr := []) (C := RX7) [.int (iI (tb mo w j))] (c_X7_mostOf E m0 ra mm nf ti so ta go sl lo cn lx ly pm pi mo w (h - j) (by omega) (by omega)) [0, 1] [] 0 rfl rfl gX7_best_X7_mostOf rfl ⟨rfl, by decide +kernel⟩ ⟨by decide, by decide⟩ rfl rfl rfl rfl rfl (by decide) rfl (by decide) (by decide) (fun _ h => absurd h List.not_mem_nil) dX7_best_101 rfl (Nat.le_of_ble_eq_true rfl) ⟨by decide, by decide⟩ (fun r u p_41 => ?_)
                    obtain ⟨rfl, rfl⟩ := p_41
                    have ht2 := tb_b hmo w (h - j)
                    refine g_iadd dX7_best_104 ?_
                    refine g_istore (lv1 := [(7, .int (iI ((tb mo w j) + (tb mo w (h - j))))), (0, .ref m0), (1, .int (iI w)), (2, .int (iI h)), (3, .int (iI qa)), (4, .int (iI qb)), (5, .int (iI v2)), (6, .int (iI j))]) dX7_best_105 (by decide) rfl ?_
                    refine g_iload 0 dX7_best_107 rfl ?_
                    refine g_iload 6 dX7_best_109 rfl ?_
                    refine g_icmp_le (tgt := 119) (by unfold R32; omega) (by unfold R32; omega) dX7_best_111 rfl (fun c_42 => ?_) (fun c_42 => ?_)
                    · refine g_iload 6 dX7_best_119 rfl ?_
                      refine g_istore (lv1 := [(5, .int (iI v2)), (7, .int (iI ((tb mo w j) + (tb mo w (h - j))))), (0, .ref m0), (1, .int (iI w)), (2, .int (iI h)), (3, .int (iI qa)), (4, .int (iI qb)), (6, .int (iI j))]) dX7_best_121 (by decide) rfl ?_
                      refine g_iinc (lv1 := [(6, .int (iI (j + 1))), (5, .int (iI v2)), (7, .int (iI ((tb mo w j) + (tb mo w (h - j))))), (0, .ref m0), (1, .int (iI w)), (2, .int (iI h)), (3, .int (iI qa)), (4, .int (iI qb))]) 7 dX7_best_123 rfl (by decide) rfl ?_
                      refine g_goto (tgt := 82) dX7_best_126 rfl ?_
                      refine g_lv (lv1 := [(0, .ref m0), (1, .int (iI w)), (2, .int (iI h)), (3, .int (iI qa)), (4, .int (iI qb)), (5, .int (iI v2)), (6, .int (iI (j + 1)))]) [3, 4, 5, 6, 7, 1, 0] rfl ?_
                      exact ih82 (j + 1) v2 (by omega) (by omega) (by exact kI_t (by omega) hK2 (by unfold cL; omega)) (by omega)
                    · refine g_iload 0 dX7_best_114 rfl ?_
                      refine g_goto (tgt := 121) dX7_best_116 rfl ?_
                      refine g_istore (lv1 := [(5, .int (iI ((tb mo w j) + (tb mo w (h - j))))), (7, .int (iI ((tb mo w j) + (tb mo w (h - j))))), (0, .ref m0), (1, .int (iI w)), (2, .int (iI h)), (3, .int (iI qa)), (4, .int (iI qb)), (6, .int (iI j))]) dX7_best_121 (by decide) rfl ?_
                      refine g_iinc (lv1 := [(6, .int (iI (j + 1))), (5, .int (iI ((tb mo w j) + (tb mo w (h - j))))), (7, .int (iI ((tb mo w j) + (tb mo w (h - j))))), (0, .ref m0), (1, .int (iI w)), (2, .int (iI h)), (3, .int (iI qa)), (4, .int (iI qb))]) 7 dX7_best_123 rfl (by decide) rfl ?_
                      refine g_goto (tgt := 82) dX7_best_126 rfl ?_
                      refine g_lv (lv1 := [(0, .ref m0), (1, .int (iI w)), (2, .int (iI h)), (3, .int (iI qa)), (4, .int (iI qb)), (5, .int (iI ((tb mo w j) + (tb mo w (h - j))))), (6, .int (iI (j + 1)))]) [3, 4, 5, 6, 7, 1, 0] rfl ?_
                      exact ih82 (j + 1) ((tb mo w j) + (tb mo w (h - j))) (by omega) (by omega) (by exact kI_t (by omega) hK2 (by unfold cL; omega)) (by omega)
              exact L82 _ 1 v1 (by omega) (by omega) (by exact kI_1 _ _) (lt_nn _)
            · refine g_aload_n 0 dX7_best_38 rfl rfl ?_
              refine g_iload 6 dX7_best_39 rfl ?_
              refine g_iload_n 2 dX7_best_41 rfl rfl ?_
              refine g_callV_i (n := 2) (As := [.int (iI k), .int (iI h)]) (wr := []) (C := RX7) [] (c_X7_mostOf E m0 ra mm nf ti so ta go sl lo cn lx ly pm pi mo k h (by omega) (by omega)) [0, 1] [] 0 rfl rfl gX7_best_X7_mostOf rfl ⟨rfl, by decide +kernel⟩ ⟨by decide, by decide⟩ rfl rfl rfl rfl rfl (by decide) rfl (by decide) (by decide) (fun _ h => absurd h List.not_mem_nil) dX7_best_42 rfl (Nat.le_of_ble_eq_true rfl) ⟨by decide, by decide⟩ (fun r u p_43 => ?_)
              obtain ⟨rfl, rfl⟩ := p_43
              have ht1 := tb_b hmo k h
              refine g_aload_n 0 dX7_best_45 rfl rfl ?_
              refine g_iload_n 1 dX7_best_46 rfl rfl ?_
              refine g_iload 6 dX7_best_47 rfl ?_
              refine g_isub dX7_best_49 ?_
              refine g_iload_n 2 dX7_best_50 rfl rfl ?_
              refine g_callV_i (n := 2) (As := [.int (iI (w - k)), .int (iI h)]) (wr := []) (C := RX7) [.int (iI (tb mo k h))] (c_X7_mostOf E m0 ra mm nf ti so ta go sl lo cn lx ly pm pi mo (w - k) h (by omega) (by omega)) [0, 1] [] 0 rfl rfl gX7_best_X7_mostOf rfl ⟨rfl, by decide +kernel⟩ ⟨by decide, by decide⟩ rfl rfl rfl rfl rfl (by decide) rfl (by decide) (by decide) (fun _ h => absurd h List.not_mem_nil) dX7_best_51 rfl (Nat.le_of_ble_eq_true rfl) ⟨by decide, by decide⟩ (fun r u p_44 => ?_)
              obtain ⟨rfl, rfl⟩ := p_44
              have ht2 := tb_b hmo (w - k) h
              refine g_iadd dX7_best_54 ?_
              refine g_istore (lv1 := [(7, .int (iI ((tb mo k h) + (tb mo (w - k) h)))), (0, .ref m0), (1, .int (iI w)), (2, .int (iI h)), (3, .int (iI qa)), (4, .int (iI qb)), (5, .int (iI v1)), (6, .int (iI k))]) dX7_best_55 (by decide) rfl ?_
              refine g_iload 0 dX7_best_57 rfl ?_
              refine g_iload 6 dX7_best_59 rfl ?_
              refine g_icmp_le (tgt := 69) (by unfold R32; omega) (by unfold R32; omega) dX7_best_61 rfl (fun c_45 => ?_) (fun c_45 => ?_)
              · refine g_iload 6 dX7_best_69 rfl ?_
                refine g_istore (lv1 := [(5, .int (iI v1)), (7, .int (iI ((tb mo k h) + (tb mo (w - k) h)))), (0, .ref m0), (1, .int (iI w)), (2, .int (iI h)), (3, .int (iI qa)), (4, .int (iI qb)), (6, .int (iI k))]) dX7_best_71 (by decide) rfl ?_
                refine g_iinc (lv1 := [(6, .int (iI (k + 1))), (5, .int (iI v1)), (7, .int (iI ((tb mo k h) + (tb mo (w - k) h)))), (0, .ref m0), (1, .int (iI w)), (2, .int (iI h)), (3, .int (iI qa)), (4, .int (iI qb))]) 7 dX7_best_73 rfl (by decide) rfl ?_
                refine g_goto (tgt := 32) dX7_best_76 rfl ?_
                refine g_lv (lv1 := [(0, .ref m0), (1, .int (iI w)), (2, .int (iI h)), (3, .int (iI qa)), (4, .int (iI qb)), (5, .int (iI v1)), (6, .int (iI (k + 1)))]) [3, 4, 5, 6, 7, 1, 0] rfl ?_
                exact ih32 (k + 1) v1 (by omega) (by omega) (by exact kI_t (by omega) hK1 (by unfold cU; omega)) (by omega)
              · refine g_iload 0 dX7_best_64 rfl ?_
                refine g_goto (tgt := 71) dX7_best_66 rfl ?_
                refine g_istore (lv1 := [(5, .int (iI ((tb mo k h) + (tb mo (w - k) h)))), (7, .int (iI ((tb mo k h) + (tb mo (w - k) h)))), (0, .ref m0), (1, .int (iI w)), (2, .int (iI h)), (3, .int (iI qa)), (4, .int (iI qb)), (6, .int (iI k))]) dX7_best_71 (by decide) rfl ?_
                refine g_iinc (lv1 := [(6, .int (iI (k + 1))), (5, .int (iI ((tb mo k h) + (tb mo (w - k) h)))), (7, .int (iI ((tb mo k h) + (tb mo (w - k) h)))), (0, .ref m0), (1, .int (iI w)), (2, .int (iI h)), (3, .int (iI qa)), (4, .int (iI qb))]) 7 dX7_best_73 rfl (by decide) rfl ?_
                refine g_goto (tgt := 32) dX7_best_76 rfl ?_
                refine g_lv (lv1 := [(0, .ref m0), (1, .int (iI w)), (2, .int (iI h)), (3, .int (iI qa)), (4, .int (iI qb)), (5, .int (iI ((tb mo k h) + (tb mo (w - k) h)))), (6, .int (iI (k + 1)))]) [3, 4, 5, 6, 7, 1, 0] rfl ?_
                exact ih32 (k + 1) ((tb mo k h) + (tb mo (w - k) h)) (by omega) (by omega) (by exact kI_t (by omega) hK1 (by unfold cU; omega)) (by omega)
        exact L32 _ 1 (bs qa qb w h) (by omega) (by omega) (by exact kI_1 _ _) (lt_nn _)
  · refine g_iload 4 dX7_best_5 rfl ?_
    refine g_iload_n 2 dX7_best_7 rfl rfl ?_
    refine g_icmp_le (tgt := 22) (by unfold R32; omega) (by unfold R32; omega) dX7_best_8 rfl (fun c_46 => ?_) (fun c_46 => ?_)
    · refine g_iconst dX7_best_22 ?_
      refine g_goto (tgt := 27) dX7_best_23 rfl ?_
      have hbs := bs_01 qa qb w h
      refine g_top (y := iI (bs qa qb w h)) (congrArg iI (by unfold bs; first | (rw [if_pos (by omega)]; done) | (rw [if_neg (by omega)]; done))) ?_
      refine g_istore (lv1 := [(5, .int (iI (bs qa qb w h))), (0, .ref m0), (1, .int (iI w)), (2, .int (iI h)), (3, .int (iI qa)), (4, .int (iI qb))]) dX7_best_27 (by decide) rfl ?_
      refine g_iconst dX7_best_29 ?_
      refine g_istore (lv1 := [(6, .int (iI 1)), (5, .int (iI (bs qa qb w h))), (0, .ref m0), (1, .int (iI w)), (2, .int (iI h)), (3, .int (iI qa)), (4, .int (iI qb))]) dX7_best_30 (by decide) rfl ?_
      refine g_lv (lv1 := [(0, .ref m0), (1, .int (iI w)), (2, .int (iI h)), (3, .int (iI qa)), (4, .int (iI qb)), (5, .int (iI (bs qa qb w h))), (6, .int (iI 1))]) [2, 3, 4, 5, 6, 1, 0] rfl ?_
      have L32 : ∀ (nn : Nat) (k : Int) (v1 : Int) (hk : 1 ≤ k ∧ k ≤ w) (hv1 : 0 ≤ v1 ∧ v1 ≤ 720) (hK1 : kI (bs qa qb w h) (cU (tb mo) w h) k v1) (hm : w - k < (nn : Int)), G X ({ frames := 2, cells := 0, slots := 0, locals := 48 } : Room) cX7_best 11 RX7 wsX7_best E [] 0 0 [(m0, oo 7 (fMo ra mm nf ti so ta go sl lo cn lx ly pm pi)), (ra 37, aI E 169 mo)] [(0, .ref m0), (1, .int (iI w)), (2, .int (iI h)), (3, .int (iI qa)), (4, .int (iI qb)), (5, .int (iI v1)), (6, .int (iI k))] 32 [] := by
        intro nn
        induction nn with
        | zero => intro k v1 hk hv1 hK1 hm; exfalso; omega
        | succ nn ih32 =>
          intro k v1 hk hv1 hK1 hm
          refine g_iload 6 dX7_best_32 rfl ?_
          refine g_iload_n 1 dX7_best_34 rfl rfl ?_
          refine g_icmp_ge (tgt := 79) (by unfold R32; omega) (by unfold R32; omega) dX7_best_35 rfl (fun c_47 => ?_) (fun c_47 => ?_)
          · refine g_iconst dX7_best_79 ?_
            refine g_istore (lv1 := [(6, .int (iI 1)), (0, .ref m0), (1, .int (iI w)), (2, .int (iI h)), (3, .int (iI qa)), (4, .int (iI qb)), (5, .int (iI v1))]) dX7_best_80 (by decide) rfl ?_
            refine g_lv (lv1 := [(0, .ref m0), (1, .int (iI w)), (2, .int (iI h)), (3, .int (iI qa)), (4, .int (iI qb)), (5, .int (iI v1)), (6, .int (iI 1))]) [1, 2, 3, 4, 5, 6, 0] rfl ?_
            have L82 : ∀ (nn : Nat) (j : Int) (v2 : Int) (hj : 1 ≤ j ∧ j ≤ h) (hv2 : 0 ≤ v2 ∧ v2 ≤ 720) (hK2 : kI v1 (cL (tb mo) w h) j v2) (hm : h - j < (nn : Int)), G X ({ frames := 2, cells := 0, slots := 0, locals := 48 } : Room) cX7_best 11 RX7 wsX7_best E [] 0 0 [(m0, oo 7 (fMo ra mm nf ti so ta go sl lo cn lx ly pm pi)), (ra 37, aI E 169 mo)] [(0, .ref m0), (1, .int (iI w)), (2, .int (iI h)), (3, .int (iI qa)), (4, .int (iI qb)), (5, .int (iI v2)), (6, .int (iI j))] 82 [] := by
              intro nn
              induction nn with
              | zero => intro j v2 hj hv2 hK2 hm; exfalso; omega
              | succ nn ih82 =>
                intro j v2 hj hv2 hK2 hm
                refine g_iload 6 dX7_best_82 rfl ?_
                refine g_iload_n 2 dX7_best_84 rfl rfl ?_
                refine g_icmp_ge (tgt := 129) (by unfold R32; omega) (by unfold R32; omega) dX7_best_85 rfl (fun c_48 => ?_) (fun c_48 => ?_)
                · refine g_iconst dX7_best_129 ?_
                  refine g_istore (lv1 := [(6, .int (iI 1)), (0, .ref m0), (1, .int (iI w)), (2, .int (iI h)), (3, .int (iI qa)), (4, .int (iI qb)), (5, .int (iI v2))]) dX7_best_130 (by decide) rfl ?_
                  refine g_lv (lv1 := [(0, .ref m0), (1, .int (iI w)), (2, .int (iI h)), (3, .int (iI qa)), (4, .int (iI qb)), (5, .int (iI v2)), (6, .int (iI 1))]) [1, 2, 3, 4, 5, 6, 0] rfl ?_
                  have L132 : ∀ (nn : Nat) (x1 : Int) (b1 : Int) (hx1 : 1 ≤ x1 ∧ x1 ≤ 12) (hb1 : 0 ≤ b1 ∧ b1 ≤ 720) (hI1 : wJ (tb mo) w h (4096 * x1) v2 b1) (hm : 12 - x1 < (nn : Int)), G X ({ frames := 2, cells := 0, slots := 0, locals := 48 } : Room) cX7_best 11 RX7 wsX7_best E [] 0 0 [(m0, oo 7 (fMo ra mm nf ti so ta go sl lo cn lx ly pm pi)), (ra 37, aI E 169 mo)] [(0, .ref m0), (1, .int (iI w)), (2, .int (iI h)), (3, .int (iI qa)), (4, .int (iI qb)), (5, .int (iI b1)), (6, .int (iI x1))] 132 [] := by
                    intro nn
                    induction nn with
                    | zero => intro x1 b1 hx1 hb1 hI1 hm; exfalso; omega
                    | succ nn ih132 =>
                      intro x1 b1 hx1 hb1 hI1 hm
                      have hS : isS qa qb (tb mo) w h v2 := kI_S (show k = w by omega) (show j = h by omega) hK1 hK2
                      refine g_iload 6 dX7_best_132 rfl ?_
                      refine g_iload_n 1 dX7_best_134 rfl rfl ?_
                      refine g_icmp_ge (tgt := 227) (by unfold R32; omega) (by unfold R32; omega) dX7_best_135 rfl (fun c_49 => ?_) (fun c_49 => ?_)
                      · refine g_iload 5 dX7_best_227 rfl ?_
                        exact g_iret hRet dX7_best_229 rfl ⟨b1, (by exact isB_all hS (by omega) hI1.1 hI1.2.1 hI1.2.2 (by omega) (by omega)), rfl, rfl⟩
                      · refine g_iload 6 dX7_best_138 rfl ?_
                        refine g_iconst dX7_best_140 ?_
                        refine g_iadd dX7_best_141 ?_
                        refine g_istore (lv1 := [(7, .int (iI (x1 + 1))), (0, .ref m0), (1, .int (iI w)), (2, .int (iI h)), (3, .int (iI qa)), (4, .int (iI qb)), (5, .int (iI b1)), (6, .int (iI x1))]) dX7_best_142 (by decide) rfl ?_
                        refine g_lv (lv1 := [(0, .ref m0), (1, .int (iI w)), (2, .int (iI h)), (3, .int (iI qa)), (4, .int (iI qb)), (5, .int (iI b1)), (6, .int (iI x1)), (7, .int (iI (x1 + 1)))]) [1, 2, 3, 4, 5, 6, 7, 0] rfl ?_
                        have L144 : ∀ (nn : Nat) (x2 : Int) (b2 : Int) (hx2 : x1 < x2 ∧ x2 ≤ 12) (hb2 : 0 ≤ b2 ∧ b2 ≤ 720) (hI2 : wJ (tb mo) w h (4096 * x1 + 256 * x2) v2 b2) (hm : 12 - x2 < (nn : Int)), G X ({ frames := 2, cells := 0, slots := 0, locals := 48 } : Room) cX7_best 11 RX7 wsX7_best E [] 0 0 [(m0, oo 7 (fMo ra mm nf ti so ta go sl lo cn lx ly pm pi)), (ra 37, aI E 169 mo)] [(0, .ref m0), (1, .int (iI w)), (2, .int (iI h)), (3, .int (iI qa)), (4, .int (iI qb)), (5, .int (iI b2)), (6, .int (iI x1)), (7, .int (iI x2))] 144 [] := by
                          intro nn
                          induction nn with
                          | zero => intro x2 b2 hx2 hb2 hI2 hm; exfalso; omega
                          | succ nn ih144 =>
                            intro x2 b2 hx2 hb2 hI2 hm
                            refine g_iload 7 dX7_best_144 rfl ?_
                            refine g_iload_n 1 dX7_best_146 rfl rfl ?_
                            refine g_icmp_ge (tgt := 221) (by unfold R32; omega) (by unfold R32; omega) dX7_best_147 rfl (fun c_50 => ?_) (fun c_50 => ?_)
                            · refine g_iinc (lv1 := [(6, .int (iI (x1 + 1))), (0, .ref m0), (1, .int (iI w)), (2, .int (iI h)), (3, .int (iI qa)), (4, .int (iI qb)), (5, .int (iI b2)), (7, .int (iI x2))]) 6 dX7_best_221 rfl (by decide) rfl ?_
                              refine g_goto (tgt := 132) dX7_best_224 rfl ?_
                              refine g_lv (lv1 := [(0, .ref m0), (1, .int (iI w)), (2, .int (iI h)), (3, .int (iI qa)), (4, .int (iI qb)), (5, .int (iI b2)), (6, .int (iI (x1 + 1)))]) [1, 2, 3, 4, 5, 6, 0] rfl ?_
                              exact ih132 (x1 + 1) b2 (by omega) (by omega) (by exact ⟨aK_e2 (by omega) (by omega) (by omega) (by omega) hI2.1, hI2.2⟩) (by omega)
                            · refine g_iconst dX7_best_150 ?_
                              refine g_istore (lv1 := [(8, .int (iI 1)), (0, .ref m0), (1, .int (iI w)), (2, .int (iI h)), (3, .int (iI qa)), (4, .int (iI qb)), (5, .int (iI b2)), (6, .int (iI x1)), (7, .int (iI x2))]) dX7_best_151 (by decide) rfl ?_
                              refine g_lv (lv1 := [(0, .ref m0), (1, .int (iI w)), (2, .int (iI h)), (3, .int (iI qa)), (4, .int (iI qb)), (5, .int (iI b2)), (6, .int (iI x1)), (7, .int (iI x2)), (8, .int (iI 1))]) [1, 2, 3, 4, 5, 6, 7, 8, 0] rfl ?_
                              have L153 : ∀ (nn : Nat) (y1 : Int) (b3 : Int) (hx3 : 1 ≤ y1 ∧ y1 ≤ 12) (hb3 : 0 ≤ b3 ∧ b3 ≤ 720) (hI3 : wJ (tb mo) w h (4096 * x1 + 256 * x2 + 16 * y1) v2 b3) (hm : 12 - y1 < (nn : Int)), G X ({ frames := 2, cells := 0, slots := 0, locals := 48 } : Room) cX7_best 11 RX7 wsX7_best E [] 0 0 [(m0, oo 7 (fMo ra mm nf ti so ta go sl lo cn lx ly pm pi)), (ra 37, aI E 169 mo)] [(0, .ref m0), (1, .int (iI w)), (2, .int (iI h)), (3, .int (iI qa)), (4, .int (iI qb)), (5, .int (iI b3)), (6, .int (iI x1)), (7, .int (iI x2)), (8, .int (iI y1))] 153 [] := by
                                intro nn
                                induction nn with
                                | zero => intro y1 b3 hx3 hb3 hI3 hm; exfalso; omega
                                | succ nn ih153 =>
                                  intro y1 b3 hx3 hb3 hI3 hm
                                  refine g_iload 8 dX7_best_153 rfl ?_
                                  refine g_iload_n 2 dX7_best_155 rfl rfl ?_
                                  refine g_icmp_ge (tgt := 215) (by unfold R32; omega) (by unfold R32; omega) dX7_best_156 rfl (fun c_51 => ?_) (fun c_51 => ?_)
                                  · refine g_iinc (lv1 := [(7, .int (iI (x2 + 1))), (0, .ref m0), (1, .int (iI w)), (2, .int (iI h)), (3, .int (iI qa)), (4, .int (iI qb)), (5, .int (iI b3)), (6, .int (iI x1)), (8, .int (iI y1))]) 7 dX7_best_215 rfl (by decide) rfl ?_
                                    refine g_goto (tgt := 144) dX7_best_218 rfl ?_
                                    refine g_lv (lv1 := [(0, .ref m0), (1, .int (iI w)), (2, .int (iI h)), (3, .int (iI qa)), (4, .int (iI qb)), (5, .int (iI b3)), (6, .int (iI x1)), (7, .int (iI (x2 + 1)))]) [1, 2, 3, 4, 5, 6, 7, 0] rfl ?_
                                    exact ih144 (x2 + 1) b3 (by omega) (by omega) (by exact ⟨aK_e3 (by omega) (by omega) (by omega) (by omega) hI3.1, hI3.2⟩) (by omega)
                                  · refine g_iload 8 dX7_best_159 rfl ?_
                                    refine g_iconst dX7_best_161 ?_
                                    refine g_iadd dX7_best_162 ?_
                                    refine g_istore (lv1 := [(9, .int (iI (y1 + 1))), (0, .ref m0), (1, .int (iI w)), (2, .int (iI h)), (3, .int (iI qa)), (4, .int (iI qb)), (5, .int (iI b3)), (6, .int (iI x1)), (7, .int (iI x2)), (8, .int (iI y1))]) dX7_best_163 (by decide) rfl ?_
                                    refine g_lv (lv1 := [(0, .ref m0), (1, .int (iI w)), (2, .int (iI h)), (3, .int (iI qa)), (4, .int (iI qb)), (5, .int (iI b3)), (6, .int (iI x1)), (7, .int (iI x2)), (8, .int (iI y1)), (9, .int (iI (y1 + 1)))]) [1, 2, 3, 4, 5, 6, 7, 8, 9, 0] rfl ?_
                                    have L165 : ∀ (nn : Nat) (y2 : Int) (b4 : Int) (hx4 : y1 < y2 ∧ y2 ≤ 12) (hb4 : 0 ≤ b4 ∧ b4 ≤ 720) (hI4 : wJ (tb mo) w h (4096 * x1 + 256 * x2 + 16 * y1 + y2) v2 b4) (hm : 12 - y2 < (nn : Int)), G X ({ frames := 2, cells := 0, slots := 0, locals := 48 } : Room) cX7_best 11 RX7 wsX7_best E [] 0 0 [(m0, oo 7 (fMo ra mm nf ti so ta go sl lo cn lx ly pm pi)), (ra 37, aI E 169 mo)] [(0, .ref m0), (1, .int (iI w)), (2, .int (iI h)), (3, .int (iI qa)), (4, .int (iI qb)), (5, .int (iI b4)), (6, .int (iI x1)), (7, .int (iI x2)), (8, .int (iI y1)), (9, .int (iI y2))] 165 [] := by
                                      intro nn
                                      induction nn with
                                      | zero => intro y2 b4 hx4 hb4 hI4 hm; exfalso; omega
                                      | succ nn ih165 =>
                                        intro y2 b4 hx4 hb4 hI4 hm
                                        refine g_iload 9 dX7_best_165 rfl ?_
                                        refine g_iload_n 2 dX7_best_167 rfl rfl ?_
                                        refine g_icmp_ge (tgt := 209) (by unfold R32; omega) (by unfold R32; omega) dX7_best_168 rfl (fun c_52 => ?_) (fun c_52 => ?_)
                                        · refine g_iinc (lv1 := [(8, .int (iI (y1 + 1))), (0, .ref m0), (1, .int (iI w)), (2, .int (iI h)), (3, .int (iI qa)), (4, .int (iI qb)), (5, .int (iI b4)), (6, .int (iI x1)), (7, .int (iI x2)), (9, .int (iI y2))]) 8 dX7_best_209 rfl (by decide) rfl ?_
                                          refine g_goto (tgt := 153) dX7_best_212 rfl ?_
                                          refine g_lv (lv1 := [(0, .ref m0), (1, .int (iI w)), (2, .int (iI h)), (3, .int (iI qa)), (4, .int (iI qb)), (5, .int (iI b4)), (6, .int (iI x1)), (7, .int (iI x2)), (8, .int (iI (y1 + 1)))]) [1, 2, 3, 4, 5, 6, 7, 8, 0] rfl ?_
                                          exact ih153 (y1 + 1) b4 (by omega) (by omega) (by exact ⟨aK_e4 (by omega) (by omega) (by omega) (by omega) hI4.1, hI4.2⟩) (by omega)
                                        · refine g_aload_n 0 dX7_best_171 rfl rfl ?_
                                          refine g_iload_n 1 dX7_best_172 rfl rfl ?_
                                          refine g_iload_n 2 dX7_best_173 rfl rfl ?_
                                          refine g_iload 6 dX7_best_174 rfl ?_
                                          refine g_iload 7 dX7_best_176 rfl ?_
                                          refine g_iload 8 dX7_best_178 rfl ?_
                                          refine g_iload 9 dX7_best_180 rfl ?_
                                          refine g_callV_i (n := 6) (As := [.int (iI w), .int (iI h), .int (iI x1), .int (iI x2), .int (iI y1), .int (iI y2)]) (wr := []) (C := RX7) [] (c_X7_wheel E m0 ra mm nf ti so ta go sl lo cn lx ly pm pi mo w h x1 x2 y1 y2 (by omega) (by omega) (by unfold vN; omega)) [0, 1] [] 0 rfl rfl gX7_best_X7_wheel rfl ⟨rfl, by decide +kernel⟩ ⟨by decide, by decide⟩ rfl rfl rfl rfl rfl (by decide) rfl (by decide) (by decide) (fun _ h => absurd h List.not_mem_nil) dX7_best_182 rfl (Nat.le_of_ble_eq_true rfl) ⟨by decide, by decide⟩ (fun r u p_53 => ?_)
                                          obtain ⟨rfl, rfl⟩ := p_53
                                          have hcp := cP_b hmo w h x1 x2 y1 y2
                                          refine g_istore (lv1 := [(10, .int (iI (cP (tb mo) w h x1 x2 y1 y2))), (0, .ref m0), (1, .int (iI w)), (2, .int (iI h)), (3, .int (iI qa)), (4, .int (iI qb)), (5, .int (iI b4)), (6, .int (iI x1)), (7, .int (iI x2)), (8, .int (iI y1)), (9, .int (iI y2))]) dX7_best_185 (by decide) rfl ?_
                                          refine g_iload 0 dX7_best_187 rfl ?_
                                          refine g_iload 6 dX7_best_189 rfl ?_
                                          refine g_icmp_le (tgt := 199) (by unfold R32; omega) (by unfold R32; omega) dX7_best_191 rfl (fun c_54 => ?_) (fun c_54 => ?_)
                                          · refine g_iload 6 dX7_best_199 rfl ?_
                                            refine g_istore (lv1 := [(5, .int (iI b4)), (10, .int (iI (cP (tb mo) w h x1 x2 y1 y2))), (0, .ref m0), (1, .int (iI w)), (2, .int (iI h)), (3, .int (iI qa)), (4, .int (iI qb)), (6, .int (iI x1)), (7, .int (iI x2)), (8, .int (iI y1)), (9, .int (iI y2))]) dX7_best_201 (by decide) rfl ?_
                                            refine g_iinc (lv1 := [(9, .int (iI (y2 + 1))), (5, .int (iI b4)), (10, .int (iI (cP (tb mo) w h x1 x2 y1 y2))), (0, .ref m0), (1, .int (iI w)), (2, .int (iI h)), (3, .int (iI qa)), (4, .int (iI qb)), (6, .int (iI x1)), (7, .int (iI x2)), (8, .int (iI y1))]) 10 dX7_best_203 rfl (by decide) rfl ?_
                                            refine g_goto (tgt := 165) dX7_best_206 rfl ?_
                                            refine g_lv (lv1 := [(0, .ref m0), (1, .int (iI w)), (2, .int (iI h)), (3, .int (iI qa)), (4, .int (iI qb)), (5, .int (iI b4)), (6, .int (iI x1)), (7, .int (iI x2)), (8, .int (iI y1)), (9, .int (iI (y2 + 1)))]) [3, 4, 5, 6, 7, 1, 8, 9, 10, 0] rfl ?_
                                            exact ih165 (y2 + 1) b4 (by omega) (by omega) (by exact wJ_t (by omega) (by omega) (by unfold vN; omega) hI4 (by omega)) (by omega)
                                          · refine g_iload 0 dX7_best_194 rfl ?_
                                            refine g_goto (tgt := 201) dX7_best_196 rfl ?_
                                            refine g_istore (lv1 := [(5, .int (iI (cP (tb mo) w h x1 x2 y1 y2))), (10, .int (iI (cP (tb mo) w h x1 x2 y1 y2))), (0, .ref m0), (1, .int (iI w)), (2, .int (iI h)), (3, .int (iI qa)), (4, .int (iI qb)), (6, .int (iI x1)), (7, .int (iI x2)), (8, .int (iI y1)), (9, .int (iI y2))]) dX7_best_201 (by decide) rfl ?_
                                            refine g_iinc (lv1 := [(9, .int (iI (y2 + 1))), (5, .int (iI (cP (tb mo) w h x1 x2 y1 y2))), (10, .int (iI (cP (tb mo) w h x1 x2 y1 y2))), (0, .ref m0), (1, .int (iI w)), (2, .int (iI h)), (3, .int (iI qa)), (4, .int (iI qb)), (6, .int (iI x1)), (7, .int (iI x2)), (8, .int (iI y1))]) 10 dX7_best_203 rfl (by decide) rfl ?_
                                            refine g_goto (tgt := 165) dX7_best_206 rfl ?_
                                            refine g_lv (lv1 := [(0, .ref m0), (1, .int (iI w)), (2, .int (iI h)), (3, .int (iI qa)), (4, .int (iI qb)), (5, .int (iI (cP (tb mo) w h x1 x2 y1 y2))), (6, .int (iI x1)), (7, .int (iI x2)), (8, .int (iI y1)), (9, .int (iI (y2 + 1)))]) [3, 4, 5, 6, 7, 1, 8, 9, 10, 0] rfl ?_
                                            exact ih165 (y2 + 1) (cP (tb mo) w h x1 x2 y1 y2) (by omega) (by omega) (by exact wJ_t (by omega) (by omega) (by unfold vN; omega) hI4 (by omega)) (by omega)
                                    exact L165 _ (y1 + 1) b3 (by omega) (by omega) (by exact ⟨aK_y2 (hy := by omega) (by omega) (by omega) (by omega) hI3.1, hI3.2⟩) (lt_nn _)
                              exact L153 _ 1 b2 (by omega) (by omega) (by exact ⟨aK_y1  (by omega) (by omega) (by omega) hI2.1, hI2.2⟩) (lt_nn _)
                        exact L144 _ (x1 + 1) b1 (by omega) (by omega) (by exact ⟨aK_x2  (by omega) (by omega) (by omega) hI1.1, hI1.2⟩) (lt_nn _)
                  exact L132 _ 1 v2 (by omega) (by omega) (by exact ⟨aK_0 (by omega) (by omega) (by omega), by omega, Or.inl rfl⟩) (lt_nn _)
                · refine g_aload_n 0 dX7_best_88 rfl rfl ?_
                  refine g_iload_n 1 dX7_best_89 rfl rfl ?_
                  refine g_iload 6 dX7_best_90 rfl ?_
                  refine g_callV_i (n := 2) (As := [.int (iI w), .int (iI j)]) (wr := []) (C := RX7) [] (c_X7_mostOf E m0 ra mm nf ti so ta go sl lo cn lx ly pm pi mo w j (by omega) (by omega)) [0, 1] [] 0 rfl rfl gX7_best_X7_mostOf rfl ⟨rfl, by decide +kernel⟩ ⟨by decide, by decide⟩ rfl rfl rfl rfl rfl (by decide) rfl (by decide) (by decide) (fun _ h => absurd h List.not_mem_nil) dX7_best_92 rfl (Nat.le_of_ble_eq_true rfl) ⟨by decide, by decide⟩ (fun r u p_55 => ?_)
                  obtain ⟨rfl, rfl⟩ := p_55
                  have ht1 := tb_b hmo w j
                  refine g_aload_n 0 dX7_best_95 rfl rfl ?_
                  refine g_iload_n 1 dX7_best_96 rfl rfl ?_
                  refine g_iload_n 2 dX7_best_97 rfl rfl ?_
                  refine g_iload 6 dX7_best_98 rfl ?_
                  refine g_isub dX7_best_100 ?_
                  refine g_callV_i (n := 2) (As := [.int (iI w), .int (iI (h - j))]) (wr := []) (C := RX7) [.int (iI (tb mo w j))] (c_X7_mostOf E m0 ra mm nf ti so ta go sl lo cn lx ly pm pi mo w (h - j) (by omega) (by omega)) [0, 1] [] 0 rfl rfl gX7_best_X7_mostOf rfl ⟨rfl, by decide +kernel⟩ ⟨by decide, by decide⟩ rfl rfl rfl rfl rfl (by decide) rfl (by decide) (by decide) (fun _ h => absurd h List.not_mem_nil) dX7_best_101 rfl (Nat.le_of_ble_eq_true rfl) ⟨by decide, by decide⟩ (fun r u p_56 => ?_)
                  obtain ⟨rfl, rfl⟩ := p_56
                  have ht2 := tb_b hmo w (h - j)
                  refine g_iadd dX7_best_104 ?_
                  refine g_istore (lv1 := [(7, .int (iI ((tb mo w j) + (tb mo w (h - j))))), (0, .ref m0), (1, .int (iI w)), (2, .int (iI h)), (3, .int (iI qa)), (4, .int (iI qb)), (5, .int (iI v2)), (6, .int (iI j))]) dX7_best_105 (by decide) rfl ?_
                  refine g_iload 0 dX7_best_107 rfl ?_
                  refine g_iload 6 dX7_best_109 rfl ?_
                  refine g_icmp_le (tgt := 119) (by unfold R32; omega) (by unfold R32; omega) dX7_best_111 rfl (fun c_57 => ?_) (fun c_57 => ?_)
                  · refine g_iload 6 dX7_best_119 rfl ?_
                    refine g_istore (lv1 := [(5, .int (iI v2)), (7, .int (iI ((tb mo w j) + (tb mo w (h - j))))), (0, .ref m0), (1, .int (iI w)), (2, .int (iI h)), (3, .int (iI qa)), (4, .int (iI qb)), (6, .int (iI j))]) dX7_best_121 (by decide) rfl ?_
                    refine g_iinc (lv1 := [(6, .int (iI (j + 1))), (5, .int (iI v2)), (7, .int (iI ((tb mo w j) + (tb mo w (h - j))))), (0, .ref m0), (1, .int (iI w)), (2, .int (iI h)), (3, .int (iI qa)), (4, .int (iI qb))]) 7 dX7_best_123 rfl (by decide) rfl ?_
                    refine g_goto (tgt := 82) dX7_best_126 rfl ?_
                    refine g_lv (lv1 := [(0, .ref m0), (1, .int (iI w)), (2, .int (iI h)), (3, .int (iI qa)), (4, .int (iI qb)), (5, .int (iI v2)), (6, .int (iI (j + 1)))]) [3, 4, 5, 6, 7, 1, 0] rfl ?_
                    exact ih82 (j + 1) v2 (by omega) (by omega) (by exact kI_t (by omega) hK2 (by unfold cL; omega)) (by omega)
                  · refine g_iload 0 dX7_best_114 rfl ?_
                    refine g_goto (tgt := 121) dX7_best_116 rfl ?_
                    refine g_istore (lv1 := [(5, .int (iI ((tb mo w j) + (tb mo w (h - j))))), (7, .int (iI ((tb mo w j) + (tb mo w (h - j))))), (0, .ref m0), (1, .int (iI w)), (2, .int (iI h)), (3, .int (iI qa)), (4, .int (iI qb)), (6, .int (iI j))]) dX7_best_121 (by decide) rfl ?_
                    refine g_iinc (lv1 := [(6, .int (iI (j + 1))), (5, .int (iI ((tb mo w j) + (tb mo w (h - j))))), (7, .int (iI ((tb mo w j) + (tb mo w (h - j))))), (0, .ref m0), (1, .int (iI w)), (2, .int (iI h)), (3, .int (iI qa)), (4, .int (iI qb))]) 7 dX7_best_123 rfl (by decide) rfl ?_
                    refine g_goto (tgt := 82) dX7_best_126 rfl ?_
                    refine g_lv (lv1 := [(0, .ref m0), (1, .int (iI w)), (2, .int (iI h)), (3, .int (iI qa)), (4, .int (iI qb)), (5, .int (iI ((tb mo w j) + (tb mo w (h - j))))), (6, .int (iI (j + 1)))]) [3, 4, 5, 6, 7, 1, 0] rfl ?_
                    exact ih82 (j + 1) ((tb mo w j) + (tb mo w (h - j))) (by omega) (by omega) (by exact kI_t (by omega) hK2 (by unfold cL; omega)) (by omega)
            exact L82 _ 1 v1 (by omega) (by omega) (by exact kI_1 _ _) (lt_nn _)
          · refine g_aload_n 0 dX7_best_38 rfl rfl ?_
            refine g_iload 6 dX7_best_39 rfl ?_
            refine g_iload_n 2 dX7_best_41 rfl rfl ?_
            refine g_callV_i (n := 2) (As := [.int (iI k), .int (iI h)]) (wr := []) (C := RX7) [] (c_X7_mostOf E m0 ra mm nf ti so ta go sl lo cn lx ly pm pi mo k h (by omega) (by omega)) [0, 1] [] 0 rfl rfl gX7_best_X7_mostOf rfl ⟨rfl, by decide +kernel⟩ ⟨by decide, by decide⟩ rfl rfl rfl rfl rfl (by decide) rfl (by decide) (by decide) (fun _ h => absurd h List.not_mem_nil) dX7_best_42 rfl (Nat.le_of_ble_eq_true rfl) ⟨by decide, by decide⟩ (fun r u p_58 => ?_)
            obtain ⟨rfl, rfl⟩ := p_58
            have ht1 := tb_b hmo k h
            refine g_aload_n 0 dX7_best_45 rfl rfl ?_
            refine g_iload_n 1 dX7_best_46 rfl rfl ?_
            refine g_iload 6 dX7_best_47 rfl ?_
            refine g_isub dX7_best_49 ?_
            refine g_iload_n 2 dX7_best_50 rfl rfl ?_
            refine g_callV_i (n := 2) (As := [.int (iI (w - k)), .int (iI h)]) (wr := []) (C := RX7) [.int (iI (tb mo k h))] (c_X7_mostOf E m0 ra mm nf ti so ta go sl lo cn lx ly pm pi mo (w - k) h (by omega) (by omega)) [0, 1] [] 0 rfl rfl gX7_best_X7_mostOf rfl ⟨rfl, by decide +kernel⟩ ⟨by decide, by decide⟩ rfl rfl rfl rfl rfl (by decide) rfl (by decide) (by decide) (fun _ h => absurd h List.not_mem_nil) dX7_best_51 rfl (Nat.le_of_ble_eq_true rfl) ⟨by decide, by decide⟩ (fun r u p_59 => ?_)
            obtain ⟨rfl, rfl⟩ := p_59
            have ht2 := tb_b hmo (w - k) h
            refine g_iadd dX7_best_54 ?_
            refine g_istore (lv1 := [(7, .int (iI ((tb mo k h) + (tb mo (w - k) h)))), (0, .ref m0), (1, .int (iI w)), (2, .int (iI h)), (3, .int (iI qa)), (4, .int (iI qb)), (5, .int (iI v1)), (6, .int (iI k))]) dX7_best_55 (by decide) rfl ?_
            refine g_iload 0 dX7_best_57 rfl ?_
            refine g_iload 6 dX7_best_59 rfl ?_
            refine g_icmp_le (tgt := 69) (by unfold R32; omega) (by unfold R32; omega) dX7_best_61 rfl (fun c_60 => ?_) (fun c_60 => ?_)
            · refine g_iload 6 dX7_best_69 rfl ?_
              refine g_istore (lv1 := [(5, .int (iI v1)), (7, .int (iI ((tb mo k h) + (tb mo (w - k) h)))), (0, .ref m0), (1, .int (iI w)), (2, .int (iI h)), (3, .int (iI qa)), (4, .int (iI qb)), (6, .int (iI k))]) dX7_best_71 (by decide) rfl ?_
              refine g_iinc (lv1 := [(6, .int (iI (k + 1))), (5, .int (iI v1)), (7, .int (iI ((tb mo k h) + (tb mo (w - k) h)))), (0, .ref m0), (1, .int (iI w)), (2, .int (iI h)), (3, .int (iI qa)), (4, .int (iI qb))]) 7 dX7_best_73 rfl (by decide) rfl ?_
              refine g_goto (tgt := 32) dX7_best_76 rfl ?_
              refine g_lv (lv1 := [(0, .ref m0), (1, .int (iI w)), (2, .int (iI h)), (3, .int (iI qa)), (4, .int (iI qb)), (5, .int (iI v1)), (6, .int (iI (k + 1)))]) [3, 4, 5, 6, 7, 1, 0] rfl ?_
              exact ih32 (k + 1) v1 (by omega) (by omega) (by exact kI_t (by omega) hK1 (by unfold cU; omega)) (by omega)
            · refine g_iload 0 dX7_best_64 rfl ?_
              refine g_goto (tgt := 71) dX7_best_66 rfl ?_
              refine g_istore (lv1 := [(5, .int (iI ((tb mo k h) + (tb mo (w - k) h)))), (7, .int (iI ((tb mo k h) + (tb mo (w - k) h)))), (0, .ref m0), (1, .int (iI w)), (2, .int (iI h)), (3, .int (iI qa)), (4, .int (iI qb)), (6, .int (iI k))]) dX7_best_71 (by decide) rfl ?_
              refine g_iinc (lv1 := [(6, .int (iI (k + 1))), (5, .int (iI ((tb mo k h) + (tb mo (w - k) h)))), (7, .int (iI ((tb mo k h) + (tb mo (w - k) h)))), (0, .ref m0), (1, .int (iI w)), (2, .int (iI h)), (3, .int (iI qa)), (4, .int (iI qb))]) 7 dX7_best_73 rfl (by decide) rfl ?_
              refine g_goto (tgt := 32) dX7_best_76 rfl ?_
              refine g_lv (lv1 := [(0, .ref m0), (1, .int (iI w)), (2, .int (iI h)), (3, .int (iI qa)), (4, .int (iI qb)), (5, .int (iI ((tb mo k h) + (tb mo (w - k) h)))), (6, .int (iI (k + 1)))]) [3, 4, 5, 6, 7, 1, 0] rfl ?_
              exact ih32 (k + 1) ((tb mo k h) + (tb mo (w - k) h)) (by omega) (by omega) (by exact kI_t (by omega) hK1 (by unfold cU; omega)) (by omega)
      exact L32 _ 1 (bs qa qb w h) (by omega) (by omega) (by exact kI_1 _ _) (lt_nn _)
    · refine g_iload 4 dX7_best_11 rfl ?_
      refine g_iload_n 1 dX7_best_13 rfl rfl ?_
      refine g_icmp_gt (tgt := 26) (by unfold R32; omega) (by unfold R32; omega) dX7_best_14 rfl (fun c_61 => ?_) (fun c_61 => ?_)
      · refine g_iconst dX7_best_26 ?_
        have hbs := bs_01 qa qb w h
        refine g_top (y := iI (bs qa qb w h)) (congrArg iI (by unfold bs; first | (rw [if_pos (by omega)]; done) | (rw [if_neg (by omega)]; done))) ?_
        refine g_istore (lv1 := [(5, .int (iI (bs qa qb w h))), (0, .ref m0), (1, .int (iI w)), (2, .int (iI h)), (3, .int (iI qa)), (4, .int (iI qb))]) dX7_best_27 (by decide) rfl ?_
        refine g_iconst dX7_best_29 ?_
        refine g_istore (lv1 := [(6, .int (iI 1)), (5, .int (iI (bs qa qb w h))), (0, .ref m0), (1, .int (iI w)), (2, .int (iI h)), (3, .int (iI qa)), (4, .int (iI qb))]) dX7_best_30 (by decide) rfl ?_
        refine g_lv (lv1 := [(0, .ref m0), (1, .int (iI w)), (2, .int (iI h)), (3, .int (iI qa)), (4, .int (iI qb)), (5, .int (iI (bs qa qb w h))), (6, .int (iI 1))]) [2, 3, 4, 5, 6, 1, 0] rfl ?_
        have L32 : ∀ (nn : Nat) (k : Int) (v1 : Int) (hk : 1 ≤ k ∧ k ≤ w) (hv1 : 0 ≤ v1 ∧ v1 ≤ 720) (hK1 : kI (bs qa qb w h) (cU (tb mo) w h) k v1) (hm : w - k < (nn : Int)), G X ({ frames := 2, cells := 0, slots := 0, locals := 48 } : Room) cX7_best 11 RX7 wsX7_best E [] 0 0 [(m0, oo 7 (fMo ra mm nf ti so ta go sl lo cn lx ly pm pi)), (ra 37, aI E 169 mo)] [(0, .ref m0), (1, .int (iI w)), (2, .int (iI h)), (3, .int (iI qa)), (4, .int (iI qb)), (5, .int (iI v1)), (6, .int (iI k))] 32 [] := by
          intro nn
          induction nn with
          | zero => intro k v1 hk hv1 hK1 hm; exfalso; omega
          | succ nn ih32 =>
            intro k v1 hk hv1 hK1 hm
            refine g_iload 6 dX7_best_32 rfl ?_
            refine g_iload_n 1 dX7_best_34 rfl rfl ?_
            refine g_icmp_ge (tgt := 79) (by unfold R32; omega) (by unfold R32; omega) dX7_best_35 rfl (fun c_62 => ?_) (fun c_62 => ?_)
            · refine g_iconst dX7_best_79 ?_
              refine g_istore (lv1 := [(6, .int (iI 1)), (0, .ref m0), (1, .int (iI w)), (2, .int (iI h)), (3, .int (iI qa)), (4, .int (iI qb)), (5, .int (iI v1))]) dX7_best_80 (by decide) rfl ?_
              refine g_lv (lv1 := [(0, .ref m0), (1, .int (iI w)), (2, .int (iI h)), (3, .int (iI qa)), (4, .int (iI qb)), (5, .int (iI v1)), (6, .int (iI 1))]) [1, 2, 3, 4, 5, 6, 0] rfl ?_
              have L82 : ∀ (nn : Nat) (j : Int) (v2 : Int) (hj : 1 ≤ j ∧ j ≤ h) (hv2 : 0 ≤ v2 ∧ v2 ≤ 720) (hK2 : kI v1 (cL (tb mo) w h) j v2) (hm : h - j < (nn : Int)), G X ({ frames := 2, cells := 0, slots := 0, locals := 48 } : Room) cX7_best 11 RX7 wsX7_best E [] 0 0 [(m0, oo 7 (fMo ra mm nf ti so ta go sl lo cn lx ly pm pi)), (ra 37, aI E 169 mo)] [(0, .ref m0), (1, .int (iI w)), (2, .int (iI h)), (3, .int (iI qa)), (4, .int (iI qb)), (5, .int (iI v2)), (6, .int (iI j))] 82 [] := by
                intro nn
                induction nn with
                | zero => intro j v2 hj hv2 hK2 hm; exfalso; omega
                | succ nn ih82 =>
                  intro j v2 hj hv2 hK2 hm
                  refine g_iload 6 dX7_best_82 rfl ?_
                  refine g_iload_n 2 dX7_best_84 rfl rfl ?_
                  refine g_icmp_ge (tgt := 129) (by unfold R32; omega) (by unfold R32; omega) dX7_best_85 rfl (fun c_63 => ?_) (fun c_63 => ?_)
                  · refine g_iconst dX7_best_129 ?_
                    refine g_istore (lv1 := [(6, .int (iI 1)), (0, .ref m0), (1, .int (iI w)), (2, .int (iI h)), (3, .int (iI qa)), (4, .int (iI qb)), (5, .int (iI v2))]) dX7_best_130 (by decide) rfl ?_
                    refine g_lv (lv1 := [(0, .ref m0), (1, .int (iI w)), (2, .int (iI h)), (3, .int (iI qa)), (4, .int (iI qb)), (5, .int (iI v2)), (6, .int (iI 1))]) [1, 2, 3, 4, 5, 6, 0] rfl ?_
                    have L132 : ∀ (nn : Nat) (x1 : Int) (b1 : Int) (hx1 : 1 ≤ x1 ∧ x1 ≤ 12) (hb1 : 0 ≤ b1 ∧ b1 ≤ 720) (hI1 : wJ (tb mo) w h (4096 * x1) v2 b1) (hm : 12 - x1 < (nn : Int)), G X ({ frames := 2, cells := 0, slots := 0, locals := 48 } : Room) cX7_best 11 RX7 wsX7_best E [] 0 0 [(m0, oo 7 (fMo ra mm nf ti so ta go sl lo cn lx ly pm pi)), (ra 37, aI E 169 mo)] [(0, .ref m0), (1, .int (iI w)), (2, .int (iI h)), (3, .int (iI qa)), (4, .int (iI qb)), (5, .int (iI b1)), (6, .int (iI x1))] 132 [] := by
                      intro nn
                      induction nn with
                      | zero => intro x1 b1 hx1 hb1 hI1 hm; exfalso; omega
                      | succ nn ih132 =>
                        intro x1 b1 hx1 hb1 hI1 hm
                        have hS : isS qa qb (tb mo) w h v2 := kI_S (show k = w by omega) (show j = h by omega) hK1 hK2
                        refine g_iload 6 dX7_best_132 rfl ?_
                        refine g_iload_n 1 dX7_best_134 rfl rfl ?_
                        refine g_icmp_ge (tgt := 227) (by unfold R32; omega) (by unfold R32; omega) dX7_best_135 rfl (fun c_64 => ?_) (fun c_64 => ?_)
                        · refine g_iload 5 dX7_best_227 rfl ?_
                          exact g_iret hRet dX7_best_229 rfl ⟨b1, (by exact isB_all hS (by omega) hI1.1 hI1.2.1 hI1.2.2 (by omega) (by omega)), rfl, rfl⟩
                        · refine g_iload 6 dX7_best_138 rfl ?_
                          refine g_iconst dX7_best_140 ?_
                          refine g_iadd dX7_best_141 ?_
                          refine g_istore (lv1 := [(7, .int (iI (x1 + 1))), (0, .ref m0), (1, .int (iI w)), (2, .int (iI h)), (3, .int (iI qa)), (4, .int (iI qb)), (5, .int (iI b1)), (6, .int (iI x1))]) dX7_best_142 (by decide) rfl ?_
                          refine g_lv (lv1 := [(0, .ref m0), (1, .int (iI w)), (2, .int (iI h)), (3, .int (iI qa)), (4, .int (iI qb)), (5, .int (iI b1)), (6, .int (iI x1)), (7, .int (iI (x1 + 1)))]) [1, 2, 3, 4, 5, 6, 7, 0] rfl ?_
                          have L144 : ∀ (nn : Nat) (x2 : Int) (b2 : Int) (hx2 : x1 < x2 ∧ x2 ≤ 12) (hb2 : 0 ≤ b2 ∧ b2 ≤ 720) (hI2 : wJ (tb mo) w h (4096 * x1 + 256 * x2) v2 b2) (hm : 12 - x2 < (nn : Int)), G X ({ frames := 2, cells := 0, slots := 0, locals := 48 } : Room) cX7_best 11 RX7 wsX7_best E [] 0 0 [(m0, oo 7 (fMo ra mm nf ti so ta go sl lo cn lx ly pm pi)), (ra 37, aI E 169 mo)] [(0, .ref m0), (1, .int (iI w)), (2, .int (iI h)), (3, .int (iI qa)), (4, .int (iI qb)), (5, .int (iI b2)), (6, .int (iI x1)), (7, .int (iI x2))] 144 [] := by
                            intro nn
                            induction nn with
                            | zero => intro x2 b2 hx2 hb2 hI2 hm; exfalso; omega
                            | succ nn ih144 =>
                              intro x2 b2 hx2 hb2 hI2 hm
                              refine g_iload 7 dX7_best_144 rfl ?_
                              refine g_iload_n 1 dX7_best_146 rfl rfl ?_
                              refine g_icmp_ge (tgt := 221) (by unfold R32; omega) (by unfold R32; omega) dX7_best_147 rfl (fun c_65 => ?_) (fun c_65 => ?_)
                              · refine g_iinc (lv1 := [(6, .int (iI (x1 + 1))), (0, .ref m0), (1, .int (iI w)), (2, .int (iI h)), (3, .int (iI qa)), (4, .int (iI qb)), (5, .int (iI b2)), (7, .int (iI x2))]) 6 dX7_best_221 rfl (by decide) rfl ?_
                                refine g_goto (tgt := 132) dX7_best_224 rfl ?_
                                refine g_lv (lv1 := [(0, .ref m0), (1, .int (iI w)), (2, .int (iI h)), (3, .int (iI qa)), (4, .int (iI qb)), (5, .int (iI b2)), (6, .int (iI (x1 + 1)))]) [1, 2, 3, 4, 5, 6, 0] rfl ?_
                                exact ih132 (x1 + 1) b2 (by omega) (by omega) (by exact ⟨aK_e2 (by omega) (by omega) (by omega) (by omega) hI2.1, hI2.2⟩) (by omega)
                              · refine g_iconst dX7_best_150 ?_
                                refine g_istore (lv1 := [(8, .int (iI 1)), (0, .ref m0), (1, .int (iI w)), (2, .int (iI h)), (3, .int (iI qa)), (4, .int (iI qb)), (5, .int (iI b2)), (6, .int (iI x1)), (7, .int (iI x2))]) dX7_best_151 (by decide) rfl ?_
                                refine g_lv (lv1 := [(0, .ref m0), (1, .int (iI w)), (2, .int (iI h)), (3, .int (iI qa)), (4, .int (iI qb)), (5, .int (iI b2)), (6, .int (iI x1)), (7, .int (iI x2)), (8, .int (iI 1))]) [1, 2, 3, 4, 5, 6, 7, 8, 0] rfl ?_
                                have L153 : ∀ (nn : Nat) (y1 : Int) (b3 : Int) (hx3 : 1 ≤ y1 ∧ y1 ≤ 12) (hb3 : 0 ≤ b3 ∧ b3 ≤ 720) (hI3 : wJ (tb mo) w h (4096 * x1 + 256 * x2 + 16 * y1) v2 b3) (hm : 12 - y1 < (nn : Int)), G X ({ frames := 2, cells := 0, slots := 0, locals := 48 } : Room) cX7_best 11 RX7 wsX7_best E [] 0 0 [(m0, oo 7 (fMo ra mm nf ti so ta go sl lo cn lx ly pm pi)), (ra 37, aI E 169 mo)] [(0, .ref m0), (1, .int (iI w)), (2, .int (iI h)), (3, .int (iI qa)), (4, .int (iI qb)), (5, .int (iI b3)), (6, .int (iI x1)), (7, .int (iI x2)), (8, .int (iI y1))] 153 [] := by
                                  intro nn
                                  induction nn with
                                  | zero => intro y1 b3 hx3 hb3 hI3 hm; exfalso; omega
                                  | succ nn ih153 =>
                                    intro y1 b3 hx3 hb3 hI3 hm
                                    refine g_iload 8 dX7_best_153 rfl ?_
                                    refine g_iload_n 2 dX7_best_155 rfl rfl ?_
                                    refine g_icmp_ge (tgt := 215) (by unfold R32; omega) (by unfold R32; omega) dX7_best_156 rfl (fun c_66 => ?_) (fun c_66 => ?_)
                                    · refine g_iinc (lv1 := [(7, .int (iI (x2 + 1))), (0, .ref m0), (1, .int (iI w)), (2, .int (iI h)), (3, .int (iI qa)), (4, .int (iI qb)), (5, .int (iI b3)), (6, .int (iI x1)), (8, .int (iI y1))]) 7 dX7_best_215 rfl (by decide) rfl ?_
                                      refine g_goto (tgt := 144) dX7_best_218 rfl ?_
                                      refine g_lv (lv1 := [(0, .ref m0), (1, .int (iI w)), (2, .int (iI h)), (3, .int (iI qa)), (4, .int (iI qb)), (5, .int (iI b3)), (6, .int (iI x1)), (7, .int (iI (x2 + 1)))]) [1, 2, 3, 4, 5, 6, 7, 0] rfl ?_
                                      exact ih144 (x2 + 1) b3 (by omega) (by omega) (by exact ⟨aK_e3 (by omega) (by omega) (by omega) (by omega) hI3.1, hI3.2⟩) (by omega)
                                    · refine g_iload 8 dX7_best_159 rfl ?_
                                      refine g_iconst dX7_best_161 ?_
                                      refine g_iadd dX7_best_162 ?_
                                      refine g_istore (lv1 := [(9, .int (iI (y1 + 1))), (0, .ref m0), (1, .int (iI w)), (2, .int (iI h)), (3, .int (iI qa)), (4, .int (iI qb)), (5, .int (iI b3)), (6, .int (iI x1)), (7, .int (iI x2)), (8, .int (iI y1))]) dX7_best_163 (by decide) rfl ?_
                                      refine g_lv (lv1 := [(0, .ref m0), (1, .int (iI w)), (2, .int (iI h)), (3, .int (iI qa)), (4, .int (iI qb)), (5, .int (iI b3)), (6, .int (iI x1)), (7, .int (iI x2)), (8, .int (iI y1)), (9, .int (iI (y1 + 1)))]) [1, 2, 3, 4, 5, 6, 7, 8, 9, 0] rfl ?_
                                      have L165 : ∀ (nn : Nat) (y2 : Int) (b4 : Int) (hx4 : y1 < y2 ∧ y2 ≤ 12) (hb4 : 0 ≤ b4 ∧ b4 ≤ 720) (hI4 : wJ (tb mo) w h (4096 * x1 + 256 * x2 + 16 * y1 + y2) v2 b4) (hm : 12 - y2 < (nn : Int)), G X ({ frames := 2, cells := 0, slots := 0, locals := 48 } : Room) cX7_best 11 RX7 wsX7_best E [] 0 0 [(m0, oo 7 (fMo ra mm nf ti so ta go sl lo cn lx ly pm pi)), (ra 37, aI E 169 mo)] [(0, .ref m0), (1, .int (iI w)), (2, .int (iI h)), (3, .int (iI qa)), (4, .int (iI qb)), (5, .int (iI b4)), (6, .int (iI x1)), (7, .int (iI x2)), (8, .int (iI y1)), (9, .int (iI y2))] 165 [] := by
                                        intro nn
                                        induction nn with
                                        | zero => intro y2 b4 hx4 hb4 hI4 hm; exfalso; omega
                                        | succ nn ih165 =>
                                          intro y2 b4 hx4 hb4 hI4 hm
                                          refine g_iload 9 dX7_best_165 rfl ?_
                                          refine g_iload_n 2 dX7_best_167 rfl rfl ?_
                                          refine g_icmp_ge (tgt := 209) (by unfold R32; omega) (by unfold R32; omega) dX7_best_168 rfl (fun c_67 => ?_) (fun c_67 => ?_)
                                          · refine g_iinc (lv1 := [(8, .int (iI (y1 + 1))), (0, .ref m0), (1, .int (iI w)), (2, .int (iI h)), (3, .int (iI qa)), (4, .int (iI qb)), (5, .int (iI b4)), (6, .int (iI x1)), (7, .int (iI x2)), (9, .int (iI y2))]) 8 dX7_best_209 rfl (by decide) rfl ?_
                                            refine g_goto (tgt := 153) dX7_best_212 rfl ?_
                                            refine g_lv (lv1 := [(0, .ref m0), (1, .int (iI w)), (2, .int (iI h)), (3, .int (iI qa)), (4, .int (iI qb)), (5, .int (iI b4)), (6, .int (iI x1)), (7, .int (iI x2)), (8, .int (iI (y1 + 1)))]) [1, 2, 3, 4, 5, 6, 7, 8, 0] rfl ?_
                                            exact ih153 (y1 + 1) b4 (by omega) (by omega) (by exact ⟨aK_e4 (by omega) (by omega) (by omega) (by omega) hI4.1, hI4.2⟩) (by omega)
                                          · refine g_aload_n 0 dX7_best_171 rfl rfl ?_
                                            refine g_iload_n 1 dX7_best_172 rfl rfl ?_
                                            refine g_iload_n 2 dX7_best_173 rfl rfl ?_
                                            refine g_iload 6 dX7_best_174 rfl ?_
                                            refine g_iload 7 dX7_best_176 rfl ?_
                                            refine g_iload 8 dX7_best_178 rfl ?_
                                            refine g_iload 9 dX7_best_180 rfl ?_
                                            refine g_callV_i (n := 6) (As := [.int (iI w), .int (iI h), .int (iI x1), .int (iI x2), .int (iI y1), .int (iI y2)]) (wr := []) (C := RX7) [] (c_X7_wheel E m0 ra mm nf ti so ta go sl lo cn lx ly pm pi mo w h x1 x2 y1 y2 (by omega) (by omega) (by unfold vN; omega)) [0, 1] [] 0 rfl rfl gX7_best_X7_wheel rfl ⟨rfl, by decide +kernel⟩ ⟨by decide, by decide⟩ rfl rfl rfl rfl rfl (by decide) rfl (by decide) (by decide) (fun _ h => absurd h List.not_mem_nil) dX7_best_182 rfl (Nat.le_of_ble_eq_true rfl) ⟨by decide, by decide⟩ (fun r u p_68 => ?_)
                                            obtain ⟨rfl, rfl⟩ := p_68
                                            have hcp := cP_b hmo w h x1 x2 y1 y2
                                            refine g_istore (lv1 := [(10, .int (iI (cP (tb mo) w h x1 x2 y1 y2))), (0, .ref m0), (1, .int (iI w)), (2, .int (iI h)), (3, .int (iI qa)), (4, .int (iI qb)), (5, .int (iI b4)), (6, .int (iI x1)), (7, .int (iI x2)), (8, .int (iI y1)), (9, .int (iI y2))]) dX7_best_185 (by decide) rfl ?_
                                            refine g_iload 0 dX7_best_187 rfl ?_
                                            refine g_iload 6 dX7_best_189 rfl ?_
                                            refine g_icmp_le (tgt := 199) (by unfold R32; omega) (by unfold R32; omega) dX7_best_191 rfl (fun c_69 => ?_) (fun c_69 => ?_)
                                            · refine g_iload 6 dX7_best_199 rfl ?_
                                              refine g_istore (lv1 := [(5, .int (iI b4)), (10, .int (iI (cP (tb mo) w h x1 x2 y1 y2))), (0, .ref m0), (1, .int (iI w)), (2, .int (iI h)), (3, .int (iI qa)), (4, .int (iI qb)), (6, .int (iI x1)), (7, .int (iI x2)), (8, .int (iI y1)), (9, .int (iI y2))]) dX7_best_201 (by decide) rfl ?_
                                              refine g_iinc (lv1 := [(9, .int (iI (y2 + 1))), (5, .int (iI b4)), (10, .int (iI (cP (tb mo) w h x1 x2 y1 y2))), (0, .ref m0), (1, .int (iI w)), (2, .int (iI h)), (3, .int (iI qa)), (4, .int (iI qb)), (6, .int (iI x1)), (7, .int (iI x2)), (8, .int (iI y1))]) 10 dX7_best_203 rfl (by decide) rfl ?_
                                              refine g_goto (tgt := 165) dX7_best_206 rfl ?_
                                              refine g_lv (lv1 := [(0, .ref m0), (1, .int (iI w)), (2, .int (iI h)), (3, .int (iI qa)), (4, .int (iI qb)), (5, .int (iI b4)), (6, .int (iI x1)), (7, .int (iI x2)), (8, .int (iI y1)), (9, .int (iI (y2 + 1)))]) [3, 4, 5, 6, 7, 1, 8, 9, 10, 0] rfl ?_
                                              exact ih165 (y2 + 1) b4 (by omega) (by omega) (by exact wJ_t (by omega) (by omega) (by unfold vN; omega) hI4 (by omega)) (by omega)
                                            · refine g_iload 0 dX7_best_194 rfl ?_
                                              refine g_goto (tgt := 201) dX7_best_196 rfl ?_
                                              refine g_istore (lv1 := [(5, .int (iI (cP (tb mo) w h x1 x2 y1 y2))), (10, .int (iI (cP (tb mo) w h x1 x2 y1 y2))), (0, .ref m0), (1, .int (iI w)), (2, .int (iI h)), (3, .int (iI qa)), (4, .int (iI qb)), (6, .int (iI x1)), (7, .int (iI x2)), (8, .int (iI y1)), (9, .int (iI y2))]) dX7_best_201 (by decide) rfl ?_
                                              refine g_iinc (lv1 := [(9, .int (iI (y2 + 1))), (5, .int (iI (cP (tb mo) w h x1 x2 y1 y2))), (10, .int (iI (cP (tb mo) w h x1 x2 y1 y2))), (0, .ref m0), (1, .int (iI w)), (2, .int (iI h)), (3, .int (iI qa)), (4, .int (iI qb)), (6, .int (iI x1)), (7, .int (iI x2)), (8, .int (iI y1))]) 10 dX7_best_203 rfl (by decide) rfl ?_
                                              refine g_goto (tgt := 165) dX7_best_206 rfl ?_
                                              refine g_lv (lv1 := [(0, .ref m0), (1, .int (iI w)), (2, .int (iI h)), (3, .int (iI qa)), (4, .int (iI qb)), (5, .int (iI (cP (tb mo) w h x1 x2 y1 y2))), (6, .int (iI x1)), (7, .int (iI x2)), (8, .int (iI y1)), (9, .int (iI (y2 + 1)))]) [3, 4, 5, 6, 7, 1, 8, 9, 10, 0] rfl ?_
                                              exact ih165 (y2 + 1) (cP (tb mo) w h x1 x2 y1 y2) (by omega) (by omega) (by exact wJ_t (by omega) (by omega) (by unfold vN; omega) hI4 (by omega)) (by omega)
                                      exact L165 _ (y1 + 1) b3 (by omega) (by omega) (by exact ⟨aK_y2 (hy := by omega) (by omega) (by omega) (by omega) hI3.1, hI3.2⟩) (lt_nn _)
                                exact L153 _ 1 b2 (by omega) (by omega) (by exact ⟨aK_y1  (by omega) (by omega) (by omega) hI2.1, hI2.2⟩) (lt_nn _)
                          exact L144 _ (x1 + 1) b1 (by omega) (by omega) (by exact ⟨aK_x2  (by omega) (by omega) (by omega) hI1.1, hI1.2⟩) (lt_nn _)
                    exact L132 _ 1 v2 (by omega) (by omega) (by exact ⟨aK_0 (by omega) (by omega) (by omega), by omega, Or.inl rfl⟩) (lt_nn _)
                  · refine g_aload_n 0 dX7_best_88 rfl rfl ?_
                    refine g_iload_n 1 dX7_best_89 rfl rfl ?_
                    refine g_iload 6 dX7_best_90 rfl ?_
                    refine g_callV_i (n := 2) (As := [.int (iI w), .int (iI j)]) (wr := []) (C := RX7) [] (c_X7_mostOf E m0 ra mm nf ti so ta go sl lo cn lx ly pm pi mo w j (by omega) (by omega)) [0, 1] [] 0 rfl rfl gX7_best_X7_mostOf rfl ⟨rfl, by decide +kernel⟩ ⟨by decide, by decide⟩ rfl rfl rfl rfl rfl (by decide) rfl (by decide) (by decide) (fun _ h => absurd h List.not_mem_nil) dX7_best_92 rfl (Nat.le_of_ble_eq_true rfl) ⟨by decide, by decide⟩ (fun r u p_70 => ?_)
                    obtain ⟨rfl, rfl⟩ := p_70
                    have ht1 := tb_b hmo w j
                    refine g_aload_n 0 dX7_best_95 rfl rfl ?_
                    refine g_iload_n 1 dX7_best_96 rfl rfl ?_
                    refine g_iload_n 2 dX7_best_97 rfl rfl ?_
                    refine g_iload 6 dX7_best_98 rfl ?_
                    refine g_isub dX7_best_100 ?_
                    refine g_callV_i (n := 2) (As := [.int (iI w), .int (iI (h - j))]) (wr := []) (C := RX7) [.int (iI (tb mo w j))] (c_X7_mostOf E m0 ra mm nf ti so ta go sl lo cn lx ly pm pi mo w (h - j) (by omega) (by omega)) [0, 1] [] 0 rfl rfl gX7_best_X7_mostOf rfl ⟨rfl, by decide +kernel⟩ ⟨by decide, by decide⟩ rfl rfl rfl rfl rfl (by decide) rfl (by decide) (by decide) (fun _ h => absurd h List.not_mem_nil) dX7_best_101 rfl (Nat.le_of_ble_eq_true rfl) ⟨by decide, by decide⟩ (fun r u p_71 => ?_)
                    obtain ⟨rfl, rfl⟩ := p_71
                    have ht2 := tb_b hmo w (h - j)
                    refine g_iadd dX7_best_104 ?_
                    refine g_istore (lv1 := [(7, .int (iI ((tb mo w j) + (tb mo w (h - j))))), (0, .ref m0), (1, .int (iI w)), (2, .int (iI h)), (3, .int (iI qa)), (4, .int (iI qb)), (5, .int (iI v2)), (6, .int (iI j))]) dX7_best_105 (by decide) rfl ?_
                    refine g_iload 0 dX7_best_107 rfl ?_
                    refine g_iload 6 dX7_best_109 rfl ?_
                    refine g_icmp_le (tgt := 119) (by unfold R32; omega) (by unfold R32; omega) dX7_best_111 rfl (fun c_72 => ?_) (fun c_72 => ?_)
                    · refine g_iload 6 dX7_best_119 rfl ?_
                      refine g_istore (lv1 := [(5, .int (iI v2)), (7, .int (iI ((tb mo w j) + (tb mo w (h - j))))), (0, .ref m0), (1, .int (iI w)), (2, .int (iI h)), (3, .int (iI qa)), (4, .int (iI qb)), (6, .int (iI j))]) dX7_best_121 (by decide) rfl ?_
                      refine g_iinc (lv1 := [(6, .int (iI (j + 1))), (5, .int (iI v2)), (7, .int (iI ((tb mo w j) + (tb mo w (h - j))))), (0, .ref m0), (1, .int (iI w)), (2, .int (iI h)), (3, .int (iI qa)), (4, .int (iI qb))]) 7 dX7_best_123 rfl (by decide) rfl ?_
                      refine g_goto (tgt := 82) dX7_best_126 rfl ?_
                      refine g_lv (lv1 := [(0, .ref m0), (1, .int (iI w)), (2, .int (iI h)), (3, .int (iI qa)), (4, .int (iI qb)), (5, .int (iI v2)), (6, .int (iI (j + 1)))]) [3, 4, 5, 6, 7, 1, 0] rfl ?_
                      exact ih82 (j + 1) v2 (by omega) (by omega) (by exact kI_t (by omega) hK2 (by unfold cL; omega)) (by omega)
                    · refine g_iload 0 dX7_best_114 rfl ?_
                      refine g_goto (tgt := 121) dX7_best_116 rfl ?_
                      refine g_istore (lv1 := [(5, .int (iI ((tb mo w j) + (tb mo w (h - j))))), (7, .int (iI ((tb mo w j) + (tb mo w (h - j))))), (0, .ref m0), (1, .int (iI w)), (2, .int (iI h)), (3, .int (iI qa)), (4, .int (iI qb)), (6, .int (iI j))]) dX7_best_121 (by decide) rfl ?_
                      refine g_iinc (lv1 := [(6, .int (iI (j + 1))), (5, .int (iI ((tb mo w j) + (tb mo w (h - j))))), (7, .int (iI ((tb mo w j) + (tb mo w (h - j))))), (0, .ref m0), (1, .int (iI w)), (2, .int (iI h)), (3, .int (iI qa)), (4, .int (iI qb))]) 7 dX7_best_123 rfl (by decide) rfl ?_
                      refine g_goto (tgt := 82) dX7_best_126 rfl ?_
                      refine g_lv (lv1 := [(0, .ref m0), (1, .int (iI w)), (2, .int (iI h)), (3, .int (iI qa)), (4, .int (iI qb)), (5, .int (iI ((tb mo w j) + (tb mo w (h - j))))), (6, .int (iI (j + 1)))]) [3, 4, 5, 6, 7, 1, 0] rfl ?_
                      exact ih82 (j + 1) ((tb mo w j) + (tb mo w (h - j))) (by omega) (by omega) (by exact kI_t (by omega) hK2 (by unfold cL; omega)) (by omega)
              exact L82 _ 1 v1 (by omega) (by omega) (by exact kI_1 _ _) (lt_nn _)
            · refine g_aload_n 0 dX7_best_38 rfl rfl ?_
              refine g_iload 6 dX7_best_39 rfl ?_
              refine g_iload_n 2 dX7_best_41 rfl rfl ?_
              refine g_callV_i (n := 2) (As := [.int (iI k), .int (iI h)]) (wr := []) (C := RX7) [] (c_X7_mostOf E m0 ra mm nf ti so ta go sl lo cn lx ly pm pi mo k h (by omega) (by omega)) [0, 1] [] 0 rfl rfl gX7_best_X7_mostOf rfl ⟨rfl, by decide +kernel⟩ ⟨by decide, by decide⟩ rfl rfl rfl rfl rfl (by decide) rfl (by decide) (by decide) (fun _ h => absurd h List.not_mem_nil) dX7_best_42 rfl (Nat.le_of_ble_eq_true rfl) ⟨by decide, by decide⟩ (fun r u p_73 => ?_)
              obtain ⟨rfl, rfl⟩ := p_73
              have ht1 := tb_b hmo k h
              refine g_aload_n 0 dX7_best_45 rfl rfl ?_
              refine g_iload_n 1 dX7_best_46 rfl rfl ?_
              refine g_iload 6 dX7_best_47 rfl ?_
              refine g_isub dX7_best_49 ?_
              refine g_iload_n 2 dX7_best_50 rfl rfl ?_
              refine g_callV_i (n := 2) (As := [.int (iI (w - k)), .int (iI h)]) (wr := []) (C := RX7) [.int (iI (tb mo k h))] (c_X7_mostOf E m0 ra mm nf ti so ta go sl lo cn lx ly pm pi mo (w - k) h (by omega) (by omega)) [0, 1] [] 0 rfl rfl gX7_best_X7_mostOf rfl ⟨rfl, by decide +kernel⟩ ⟨by decide, by decide⟩ rfl rfl rfl rfl rfl (by decide) rfl (by decide) (by decide) (fun _ h => absurd h List.not_mem_nil) dX7_best_51 rfl (Nat.le_of_ble_eq_true rfl) ⟨by decide, by decide⟩ (fun r u p_74 => ?_)
              obtain ⟨rfl, rfl⟩ := p_74
              have ht2 := tb_b hmo (w - k) h
              refine g_iadd dX7_best_54 ?_
              refine g_istore (lv1 := [(7, .int (iI ((tb mo k h) + (tb mo (w - k) h)))), (0, .ref m0), (1, .int (iI w)), (2, .int (iI h)), (3, .int (iI qa)), (4, .int (iI qb)), (5, .int (iI v1)), (6, .int (iI k))]) dX7_best_55 (by decide) rfl ?_
              refine g_iload 0 dX7_best_57 rfl ?_
              refine g_iload 6 dX7_best_59 rfl ?_
              refine g_icmp_le (tgt := 69) (by unfold R32; omega) (by unfold R32; omega) dX7_best_61 rfl (fun c_75 => ?_) (fun c_75 => ?_)
              · refine g_iload 6 dX7_best_69 rfl ?_
                refine g_istore (lv1 := [(5, .int (iI v1)), (7, .int (iI ((tb mo k h) + (tb mo (w - k) h)))), (0, .ref m0), (1, .int (iI w)), (2, .int (iI h)), (3, .int (iI qa)), (4, .int (iI qb)), (6, .int (iI k))]) dX7_best_71 (by decide) rfl ?_
                refine g_iinc (lv1 := [(6, .int (iI (k + 1))), (5, .int (iI v1)), (7, .int (iI ((tb mo k h) + (tb mo (w - k) h)))), (0, .ref m0), (1, .int (iI w)), (2, .int (iI h)), (3, .int (iI qa)), (4, .int (iI qb))]) 7 dX7_best_73 rfl (by decide) rfl ?_
                refine g_goto (tgt := 32) dX7_best_76 rfl ?_
                refine g_lv (lv1 := [(0, .ref m0), (1, .int (iI w)), (2, .int (iI h)), (3, .int (iI qa)), (4, .int (iI qb)), (5, .int (iI v1)), (6, .int (iI (k + 1)))]) [3, 4, 5, 6, 7, 1, 0] rfl ?_
                exact ih32 (k + 1) v1 (by omega) (by omega) (by exact kI_t (by omega) hK1 (by unfold cU; omega)) (by omega)
              · refine g_iload 0 dX7_best_64 rfl ?_
                refine g_goto (tgt := 71) dX7_best_66 rfl ?_
                refine g_istore (lv1 := [(5, .int (iI ((tb mo k h) + (tb mo (w - k) h)))), (7, .int (iI ((tb mo k h) + (tb mo (w - k) h)))), (0, .ref m0), (1, .int (iI w)), (2, .int (iI h)), (3, .int (iI qa)), (4, .int (iI qb)), (6, .int (iI k))]) dX7_best_71 (by decide) rfl ?_
                refine g_iinc (lv1 := [(6, .int (iI (k + 1))), (5, .int (iI ((tb mo k h) + (tb mo (w - k) h)))), (7, .int (iI ((tb mo k h) + (tb mo (w - k) h)))), (0, .ref m0), (1, .int (iI w)), (2, .int (iI h)), (3, .int (iI qa)), (4, .int (iI qb))]) 7 dX7_best_73 rfl (by decide) rfl ?_
                refine g_goto (tgt := 32) dX7_best_76 rfl ?_
                refine g_lv (lv1 := [(0, .ref m0), (1, .int (iI w)), (2, .int (iI h)), (3, .int (iI qa)), (4, .int (iI qb)), (5, .int (iI ((tb mo k h) + (tb mo (w - k) h)))), (6, .int (iI (k + 1)))]) [3, 4, 5, 6, 7, 1, 0] rfl ?_
                exact ih32 (k + 1) ((tb mo k h) + (tb mo (w - k) h)) (by omega) (by omega) (by exact kI_t (by omega) hK1 (by unfold cU; omega)) (by omega)
        exact L32 _ 1 (bs qa qb w h) (by omega) (by omega) (by exact kI_1 _ _) (lt_nn _)
      · refine g_iload_n 3 dX7_best_17 rfl rfl ?_
        refine g_iload_n 2 dX7_best_18 rfl rfl ?_
        refine g_icmp_gt (tgt := 26) (by unfold R32; omega) (by unfold R32; omega) dX7_best_19 rfl (fun c_76 => ?_) (fun c_76 => ?_)
        · refine g_iconst dX7_best_26 ?_
          have hbs := bs_01 qa qb w h
          refine g_top (y := iI (bs qa qb w h)) (congrArg iI (by unfold bs; first | (rw [if_pos (by omega)]; done) | (rw [if_neg (by omega)]; done))) ?_
          refine g_istore (lv1 := [(5, .int (iI (bs qa qb w h))), (0, .ref m0), (1, .int (iI w)), (2, .int (iI h)), (3, .int (iI qa)), (4, .int (iI qb))]) dX7_best_27 (by decide) rfl ?_
          refine g_iconst dX7_best_29 ?_
          refine g_istore (lv1 := [(6, .int (iI 1)), (5, .int (iI (bs qa qb w h))), (0, .ref m0), (1, .int (iI w)), (2, .int (iI h)), (3, .int (iI qa)), (4, .int (iI qb))]) dX7_best_30 (by decide) rfl ?_
          refine g_lv (lv1 := [(0, .ref m0), (1, .int (iI w)), (2, .int (iI h)), (3, .int (iI qa)), (4, .int (iI qb)), (5, .int (iI (bs qa qb w h))), (6, .int (iI 1))]) [2, 3, 4, 5, 6, 1, 0] rfl ?_
          have L32 : ∀ (nn : Nat) (k : Int) (v1 : Int) (hk : 1 ≤ k ∧ k ≤ w) (hv1 : 0 ≤ v1 ∧ v1 ≤ 720) (hK1 : kI (bs qa qb w h) (cU (tb mo) w h) k v1) (hm : w - k < (nn : Int)), G X ({ frames := 2, cells := 0, slots := 0, locals := 48 } : Room) cX7_best 11 RX7 wsX7_best E [] 0 0 [(m0, oo 7 (fMo ra mm nf ti so ta go sl lo cn lx ly pm pi)), (ra 37, aI E 169 mo)] [(0, .ref m0), (1, .int (iI w)), (2, .int (iI h)), (3, .int (iI qa)), (4, .int (iI qb)), (5, .int (iI v1)), (6, .int (iI k))] 32 [] := by
            intro nn
            induction nn with
            | zero => intro k v1 hk hv1 hK1 hm; exfalso; omega
            | succ nn ih32 =>
              intro k v1 hk hv1 hK1 hm
              refine g_iload 6 dX7_best_32 rfl ?_
              refine g_iload_n 1 dX7_best_34 rfl rfl ?_
              refine g_icmp_ge (tgt := 79) (by unfold R32; omega) (by unfold R32; omega) dX7_best_35 rfl (fun c_77 => ?_) (fun c_77 => ?_)
              · refine g_iconst dX7_best_79 ?_
                refine g_istore (lv1 := [(6, .int (iI 1)), (0, .ref m0), (1, .int (iI w)), (2, .int (iI h)), (3, .int (iI qa)), (4, .int (iI qb)), (5, .int (iI v1))]) dX7_best_80 (by decide) rfl ?_
                refine g_lv (lv1 := [(0, .ref m0), (1, .int (iI w)), (2, .int (iI h)), (3, .int (iI qa)), (4, .int (iI qb)), (5, .int (iI v1)), (6, .int (iI 1))]) [1, 2, 3, 4, 5, 6, 0] rfl ?_
                have L82 : ∀ (nn : Nat) (j : Int) (v2 : Int) (hj : 1 ≤ j ∧ j ≤ h) (hv2 : 0 ≤ v2 ∧ v2 ≤ 720) (hK2 : kI v1 (cL (tb mo) w h) j v2) (hm : h - j < (nn : Int)), G X ({ frames := 2, cells := 0, slots := 0, locals := 48 } : Room) cX7_best 11 RX7 wsX7_best E [] 0 0 [(m0, oo 7 (fMo ra mm nf ti so ta go sl lo cn lx ly pm pi)), (ra 37, aI E 169 mo)] [(0, .ref m0), (1, .int (iI w)), (2, .int (iI h)), (3, .int (iI qa)), (4, .int (iI qb)), (5, .int (iI v2)), (6, .int (iI j))] 82 [] := by
                  intro nn
                  induction nn with
                  | zero => intro j v2 hj hv2 hK2 hm; exfalso; omega
                  | succ nn ih82 =>
                    intro j v2 hj hv2 hK2 hm
                    refine g_iload 6 dX7_best_82 rfl ?_
                    refine g_iload_n 2 dX7_best_84 rfl rfl ?_
                    refine g_icmp_ge (tgt := 129) (by unfold R32; omega) (by unfold R32; omega) dX7_best_85 rfl (fun c_78 => ?_) (fun c_78 => ?_)
                    · refine g_iconst dX7_best_129 ?_
                      refine g_istore (lv1 := [(6, .int (iI 1)), (0, .ref m0), (1, .int (iI w)), (2, .int (iI h)), (3, .int (iI qa)), (4, .int (iI qb)), (5, .int (iI v2))]) dX7_best_130 (by decide) rfl ?_
                      refine g_lv (lv1 := [(0, .ref m0), (1, .int (iI w)), (2, .int (iI h)), (3, .int (iI qa)), (4, .int (iI qb)), (5, .int (iI v2)), (6, .int (iI 1))]) [1, 2, 3, 4, 5, 6, 0] rfl ?_
                      have L132 : ∀ (nn : Nat) (x1 : Int) (b1 : Int) (hx1 : 1 ≤ x1 ∧ x1 ≤ 12) (hb1 : 0 ≤ b1 ∧ b1 ≤ 720) (hI1 : wJ (tb mo) w h (4096 * x1) v2 b1) (hm : 12 - x1 < (nn : Int)), G X ({ frames := 2, cells := 0, slots := 0, locals := 48 } : Room) cX7_best 11 RX7 wsX7_best E [] 0 0 [(m0, oo 7 (fMo ra mm nf ti so ta go sl lo cn lx ly pm pi)), (ra 37, aI E 169 mo)] [(0, .ref m0), (1, .int (iI w)), (2, .int (iI h)), (3, .int (iI qa)), (4, .int (iI qb)), (5, .int (iI b1)), (6, .int (iI x1))] 132 [] := by
                        intro nn
                        induction nn with
                        | zero => intro x1 b1 hx1 hb1 hI1 hm; exfalso; omega
                        | succ nn ih132 =>
                          intro x1 b1 hx1 hb1 hI1 hm
                          have hS : isS qa qb (tb mo) w h v2 := kI_S (show k = w by omega) (show j = h by omega) hK1 hK2
                          refine g_iload 6 dX7_best_132 rfl ?_
                          refine g_iload_n 1 dX7_best_134 rfl rfl ?_
                          refine g_icmp_ge (tgt := 227) (by unfold R32; omega) (by unfold R32; omega) dX7_best_135 rfl (fun c_79 => ?_) (fun c_79 => ?_)
                          · refine g_iload 5 dX7_best_227 rfl ?_
                            exact g_iret hRet dX7_best_229 rfl ⟨b1, (by exact isB_all hS (by omega) hI1.1 hI1.2.1 hI1.2.2 (by omega) (by omega)), rfl, rfl⟩
                          · refine g_iload 6 dX7_best_138 rfl ?_
                            refine g_iconst dX7_best_140 ?_
                            refine g_iadd dX7_best_141 ?_
                            refine g_istore (lv1 := [(7, .int (iI (x1 + 1))), (0, .ref m0), (1, .int (iI w)), (2, .int (iI h)), (3, .int (iI qa)), (4, .int (iI qb)), (5, .int (iI b1)), (6, .int (iI x1))]) dX7_best_142 (by decide) rfl ?_
                            refine g_lv (lv1 := [(0, .ref m0), (1, .int (iI w)), (2, .int (iI h)), (3, .int (iI qa)), (4, .int (iI qb)), (5, .int (iI b1)), (6, .int (iI x1)), (7, .int (iI (x1 + 1)))]) [1, 2, 3, 4, 5, 6, 7, 0] rfl ?_
                            have L144 : ∀ (nn : Nat) (x2 : Int) (b2 : Int) (hx2 : x1 < x2 ∧ x2 ≤ 12) (hb2 : 0 ≤ b2 ∧ b2 ≤ 720) (hI2 : wJ (tb mo) w h (4096 * x1 + 256 * x2) v2 b2) (hm : 12 - x2 < (nn : Int)), G X ({ frames := 2, cells := 0, slots := 0, locals := 48 } : Room) cX7_best 11 RX7 wsX7_best E [] 0 0 [(m0, oo 7 (fMo ra mm nf ti so ta go sl lo cn lx ly pm pi)), (ra 37, aI E 169 mo)] [(0, .ref m0), (1, .int (iI w)), (2, .int (iI h)), (3, .int (iI qa)), (4, .int (iI qb)), (5, .int (iI b2)), (6, .int (iI x1)), (7, .int (iI x2))] 144 [] := by
                              intro nn
                              induction nn with
                              | zero => intro x2 b2 hx2 hb2 hI2 hm; exfalso; omega
                              | succ nn ih144 =>
                                intro x2 b2 hx2 hb2 hI2 hm
                                refine g_iload 7 dX7_best_144 rfl ?_
                                refine g_iload_n 1 dX7_best_146 rfl rfl ?_
                                refine g_icmp_ge (tgt := 221) (by unfold R32; omega) (by unfold R32; omega) dX7_best_147 rfl (fun c_80 => ?_) (fun c_80 => ?_)
                                · refine g_iinc (lv1 := [(6, .int (iI (x1 + 1))), (0, .ref m0), (1, .int (iI w)), (2, .int (iI h)), (3, .int (iI qa)), (4, .int (iI qb)), (5, .int (iI b2)), (7, .int (iI x2))]) 6 dX7_best_221 rfl (by decide) rfl ?_
                                  refine g_goto (tgt := 132) dX7_best_224 rfl ?_
                                  refine g_lv (lv1 := [(0, .ref m0), (1, .int (iI w)), (2, .int (iI h)), (3, .int (iI qa)), (4, .int (iI qb)), (5, .int (iI b2)), (6, .int (iI (x1 + 1)))]) [1, 2, 3, 4, 5, 6, 0] rfl ?_
                                  exact ih132 (x1 + 1) b2 (by omega) (by omega) (by exact ⟨aK_e2 (by omega) (by omega) (by omega) (by omega) hI2.1, hI2.2⟩) (by omega)
                                · refine g_iconst dX7_best_150 ?_
                                  refine g_istore (lv1 := [(8, .int (iI 1)), (0, .ref m0), (1, .int (iI w)), (2, .int (iI h)), (3, .int (iI qa)), (4, .int (iI qb)), (5, .int (iI b2)), (6, .int (iI x1)), (7, .int (iI x2))]) dX7_best_151 (by decide) rfl ?_
                                  refine g_lv (lv1 := [(0, .ref m0), (1, .int (iI w)), (2, .int (iI h)), (3, .int (iI qa)), (4, .int (iI qb)), (5, .int (iI b2)), (6, .int (iI x1)), (7, .int (iI x2)), (8, .int (iI 1))]) [1, 2, 3, 4, 5, 6, 7, 8, 0] rfl ?_
                                  have L153 : ∀ (nn : Nat) (y1 : Int) (b3 : Int) (hx3 : 1 ≤ y1 ∧ y1 ≤ 12) (hb3 : 0 ≤ b3 ∧ b3 ≤ 720) (hI3 : wJ (tb mo) w h (4096 * x1 + 256 * x2 + 16 * y1) v2 b3) (hm : 12 - y1 < (nn : Int)), G X ({ frames := 2, cells := 0, slots := 0, locals := 48 } : Room) cX7_best 11 RX7 wsX7_best E [] 0 0 [(m0, oo 7 (fMo ra mm nf ti so ta go sl lo cn lx ly pm pi)), (ra 37, aI E 169 mo)] [(0, .ref m0), (1, .int (iI w)), (2, .int (iI h)), (3, .int (iI qa)), (4, .int (iI qb)), (5, .int (iI b3)), (6, .int (iI x1)), (7, .int (iI x2)), (8, .int (iI y1))] 153 [] := by
                                    intro nn
                                    induction nn with
                                    | zero => intro y1 b3 hx3 hb3 hI3 hm; exfalso; omega
                                    | succ nn ih153 =>
                                      intro y1 b3 hx3 hb3 hI3 hm
                                      refine g_iload 8 dX7_best_153 rfl ?_
                                      refine g_iload_n 2 dX7_best_155 rfl rfl ?_
                                      refine g_icmp_ge (tgt := 215) (by unfold R32; omega) (by unfold R32; omega) dX7_best_156 rfl (fun c_81 => ?_) (fun c_81 => ?_)
                                      · refine g_iinc (lv1 := [(7, .int (iI (x2 + 1))), (0, .ref m0), (1, .int (iI w)), (2, .int (iI h)), (3, .int (iI qa)), (4, .int (iI qb)), (5, .int (iI b3)), (6, .int (iI x1)), (8, .int (iI y1))]) 7 dX7_best_215 rfl (by decide) rfl ?_
                                        refine g_goto (tgt := 144) dX7_best_218 rfl ?_
                                        refine g_lv (lv1 := [(0, .ref m0), (1, .int (iI w)), (2, .int (iI h)), (3, .int (iI qa)), (4, .int (iI qb)), (5, .int (iI b3)), (6, .int (iI x1)), (7, .int (iI (x2 + 1)))]) [1, 2, 3, 4, 5, 6, 7, 0] rfl ?_
                                        exact ih144 (x2 + 1) b3 (by omega) (by omega) (by exact ⟨aK_e3 (by omega) (by omega) (by omega) (by omega) hI3.1, hI3.2⟩) (by omega)
                                      · refine g_iload 8 dX7_best_159 rfl ?_
                                        refine g_iconst dX7_best_161 ?_
                                        refine g_iadd dX7_best_162 ?_
                                        refine g_istore (lv1 := [(9, .int (iI (y1 + 1))), (0, .ref m0), (1, .int (iI w)), (2, .int (iI h)), (3, .int (iI qa)), (4, .int (iI qb)), (5, .int (iI b3)), (6, .int (iI x1)), (7, .int (iI x2)), (8, .int (iI y1))]) dX7_best_163 (by decide) rfl ?_
                                        refine g_lv (lv1 := [(0, .ref m0), (1, .int (iI w)), (2, .int (iI h)), (3, .int (iI qa)), (4, .int (iI qb)), (5, .int (iI b3)), (6, .int (iI x1)), (7, .int (iI x2)), (8, .int (iI y1)), (9, .int (iI (y1 + 1)))]) [1, 2, 3, 4, 5, 6, 7, 8, 9, 0] rfl ?_
                                        have L165 : ∀ (nn : Nat) (y2 : Int) (b4 : Int) (hx4 : y1 < y2 ∧ y2 ≤ 12) (hb4 : 0 ≤ b4 ∧ b4 ≤ 720) (hI4 : wJ (tb mo) w h (4096 * x1 + 256 * x2 + 16 * y1 + y2) v2 b4) (hm : 12 - y2 < (nn : Int)), G X ({ frames := 2, cells := 0, slots := 0, locals := 48 } : Room) cX7_best 11 RX7 wsX7_best E [] 0 0 [(m0, oo 7 (fMo ra mm nf ti so ta go sl lo cn lx ly pm pi)), (ra 37, aI E 169 mo)] [(0, .ref m0), (1, .int (iI w)), (2, .int (iI h)), (3, .int (iI qa)), (4, .int (iI qb)), (5, .int (iI b4)), (6, .int (iI x1)), (7, .int (iI x2)), (8, .int (iI y1)), (9, .int (iI y2))] 165 [] := by
                                          intro nn
                                          induction nn with
                                          | zero => intro y2 b4 hx4 hb4 hI4 hm; exfalso; omega
                                          | succ nn ih165 =>
                                            intro y2 b4 hx4 hb4 hI4 hm
                                            refine g_iload 9 dX7_best_165 rfl ?_
                                            refine g_iload_n 2 dX7_best_167 rfl rfl ?_
                                            refine g_icmp_ge (tgt := 209) (by unfold R32; omega) (by unfold R32; omega) dX7_best_168 rfl (fun c_82 => ?_) (fun c_82 => ?_)
                                            · refine g_iinc (lv1 := [(8, .int (iI (y1 + 1))), (0, .ref m0), (1, .int (iI w)), (2, .int (iI h)), (3, .int (iI qa)), (4, .int (iI qb)), (5, .int (iI b4)), (6, .int (iI x1)), (7, .int (iI x2)), (9, .int (iI y2))]) 8 dX7_best_209 rfl (by decide) rfl ?_
                                              refine g_goto (tgt := 153) dX7_best_212 rfl ?_
                                              refine g_lv (lv1 := [(0, .ref m0), (1, .int (iI w)), (2, .int (iI h)), (3, .int (iI qa)), (4, .int (iI qb)), (5, .int (iI b4)), (6, .int (iI x1)), (7, .int (iI x2)), (8, .int (iI (y1 + 1)))]) [1, 2, 3, 4, 5, 6, 7, 8, 0] rfl ?_
                                              exact ih153 (y1 + 1) b4 (by omega) (by omega) (by exact ⟨aK_e4 (by omega) (by omega) (by omega) (by omega) hI4.1, hI4.2⟩) (by omega)
                                            · refine g_aload_n 0 dX7_best_171 rfl rfl ?_
                                              refine g_iload_n 1 dX7_best_172 rfl rfl ?_
                                              refine g_iload_n 2 dX7_best_173 rfl rfl ?_
                                              refine g_iload 6 dX7_best_174 rfl ?_
                                              refine g_iload 7 dX7_best_176 rfl ?_
                                              refine g_iload 8 dX7_best_178 rfl ?_
                                              refine g_iload 9 dX7_best_180 rfl ?_
                                              refine g_callV_i (n := 6) (As := [.int (iI w), .int (iI h), .int (iI x1), .int (iI x2), .int (iI y1), .int (iI y2)]) (wr := []) (C := RX7) [] (c_X7_wheel E m0 ra mm nf ti so ta go sl lo cn lx ly pm pi mo w h x1 x2 y1 y2 (by omega) (by omega) (by unfold vN; omega)) [0, 1] [] 0 rfl rfl gX7_best_X7_wheel rfl ⟨rfl, by decide +kernel⟩ ⟨by decide, by decide⟩ rfl rfl rfl rfl rfl (by decide) rfl (by decide) (by decide) (fun _ h => absurd h List.not_mem_nil) dX7_best_182 rfl (Nat.le_of_ble_eq_true rfl) ⟨by decide, by decide⟩ (fun r u p_83 => ?_)
                                              obtain ⟨rfl, rfl⟩ := p_83
                                              have hcp := cP_b hmo w h x1 x2 y1 y2
                                              refine g_istore (lv1 := [(10, .int (iI (cP (tb mo) w h x1 x2 y1 y2))), (0, .ref m0), (1, .int (iI w)), (2, .int (iI h)), (3, .int (iI qa)), (4, .int (iI qb)), (5, .int (iI b4)), (6, .int (iI x1)), (7, .int (iI x2)), (8, .int (iI y1)), (9, .int (iI y2))]) dX7_best_185 (by decide) rfl ?_
                                              refine g_iload 0 dX7_best_187 rfl ?_
                                              refine g_iload 6 dX7_best_189 rfl ?_
                                              refine g_icmp_le (tgt := 199) (by unfold R32; omega) (by unfold R32; omega) dX7_best_191 rfl (fun c_84 => ?_) (fun c_84 => ?_)
                                              · refine g_iload 6 dX7_best_199 rfl ?_
                                                refine g_istore (lv1 := [(5, .int (iI b4)), (10, .int (iI (cP (tb mo) w h x1 x2 y1 y2))), (0, .ref m0), (1, .int (iI w)), (2, .int (iI h)), (3, .int (iI qa)), (4, .int (iI qb)), (6, .int (iI x1)), (7, .int (iI x2)), (8, .int (iI y1)), (9, .int (iI y2))]) dX7_best_201 (by decide) rfl ?_
                                                refine g_iinc (lv1 := [(9, .int (iI (y2 + 1))), (5, .int (iI b4)), (10, .int (iI (cP (tb mo) w h x1 x2 y1 y2))), (0, .ref m0), (1, .int (iI w)), (2, .int (iI h)), (3, .int (iI qa)), (4, .int (iI qb)), (6, .int (iI x1)), (7, .int (iI x2)), (8, .int (iI y1))]) 10 dX7_best_203 rfl (by decide) rfl ?_
                                                refine g_goto (tgt := 165) dX7_best_206 rfl ?_
                                                refine g_lv (lv1 := [(0, .ref m0), (1, .int (iI w)), (2, .int (iI h)), (3, .int (iI qa)), (4, .int (iI qb)), (5, .int (iI b4)), (6, .int (iI x1)), (7, .int (iI x2)), (8, .int (iI y1)), (9, .int (iI (y2 + 1)))]) [3, 4, 5, 6, 7, 1, 8, 9, 10, 0] rfl ?_
                                                exact ih165 (y2 + 1) b4 (by omega) (by omega) (by exact wJ_t (by omega) (by omega) (by unfold vN; omega) hI4 (by omega)) (by omega)
                                              · refine g_iload 0 dX7_best_194 rfl ?_
                                                refine g_goto (tgt := 201) dX7_best_196 rfl ?_
                                                refine g_istore (lv1 := [(5, .int (iI (cP (tb mo) w h x1 x2 y1 y2))), (10, .int (iI (cP (tb mo) w h x1 x2 y1 y2))), (0, .ref m0), (1, .int (iI w)), (2, .int (iI h)), (3, .int (iI qa)), (4, .int (iI qb)), (6, .int (iI x1)), (7, .int (iI x2)), (8, .int (iI y1)), (9, .int (iI y2))]) dX7_best_201 (by decide) rfl ?_
                                                refine g_iinc (lv1 := [(9, .int (iI (y2 + 1))), (5, .int (iI (cP (tb mo) w h x1 x2 y1 y2))), (10, .int (iI (cP (tb mo) w h x1 x2 y1 y2))), (0, .ref m0), (1, .int (iI w)), (2, .int (iI h)), (3, .int (iI qa)), (4, .int (iI qb)), (6, .int (iI x1)), (7, .int (iI x2)), (8, .int (iI y1))]) 10 dX7_best_203 rfl (by decide) rfl ?_
                                                refine g_goto (tgt := 165) dX7_best_206 rfl ?_
                                                refine g_lv (lv1 := [(0, .ref m0), (1, .int (iI w)), (2, .int (iI h)), (3, .int (iI qa)), (4, .int (iI qb)), (5, .int (iI (cP (tb mo) w h x1 x2 y1 y2))), (6, .int (iI x1)), (7, .int (iI x2)), (8, .int (iI y1)), (9, .int (iI (y2 + 1)))]) [3, 4, 5, 6, 7, 1, 8, 9, 10, 0] rfl ?_
                                                exact ih165 (y2 + 1) (cP (tb mo) w h x1 x2 y1 y2) (by omega) (by omega) (by exact wJ_t (by omega) (by omega) (by unfold vN; omega) hI4 (by omega)) (by omega)
                                        exact L165 _ (y1 + 1) b3 (by omega) (by omega) (by exact ⟨aK_y2 (hy := by omega) (by omega) (by omega) (by omega) hI3.1, hI3.2⟩) (lt_nn _)
                                  exact L153 _ 1 b2 (by omega) (by omega) (by exact ⟨aK_y1  (by omega) (by omega) (by omega) hI2.1, hI2.2⟩) (lt_nn _)
                            exact L144 _ (x1 + 1) b1 (by omega) (by omega) (by exact ⟨aK_x2  (by omega) (by omega) (by omega) hI1.1, hI1.2⟩) (lt_nn _)
                      exact L132 _ 1 v2 (by omega) (by omega) (by exact ⟨aK_0 (by omega) (by omega) (by omega), by omega, Or.inl rfl⟩) (lt_nn _)
                    · refine g_aload_n 0 dX7_best_88 rfl rfl ?_
                      refine g_iload_n 1 dX7_best_89 rfl rfl ?_
                      refine g_iload 6 dX7_best_90 rfl ?_
                      refine g_callV_i (n := 2) (As := [.int (iI w), .int (iI j)]) (wr := []) (C := RX7) [] (c_X7_mostOf E m0 ra mm nf ti so ta go sl lo cn lx ly pm pi mo w j (by omega) (by omega)) [0, 1] [] 0 rfl rfl gX7_best_X7_mostOf rfl ⟨rfl, by decide +kernel⟩ ⟨by decide, by decide⟩ rfl rfl rfl rfl rfl (by decide) rfl (by decide) (by decide) (fun _ h => absurd h List.not_mem_nil) dX7_best_92 rfl (Nat.le_of_ble_eq_true rfl) ⟨by decide, by decide⟩ (fun r u p_85 => ?_)
                      obtain ⟨rfl, rfl⟩ := p_85
                      have ht1 := tb_b hmo w j
                      refine g_aload_n 0 dX7_best_95 rfl rfl ?_
                      refine g_iload_n 1 dX7_best_96 rfl rfl ?_
                      refine g_iload_n 2 dX7_best_97 rfl rfl ?_
                      refine g_iload 6 dX7_best_98 rfl ?_
                      refine g_isub dX7_best_100 ?_
                      refine g_callV_i (n := 2) (As := [.int (iI w), .int (iI (h - j))]) (wr := []) (C := RX7) [.int (iI (tb mo w j))] (c_X7_mostOf E m0 ra mm nf ti so ta go sl lo cn lx ly pm pi mo w (h - j) (by omega) (by omega)) [0, 1] [] 0 rfl rfl gX7_best_X7_mostOf rfl ⟨rfl, by decide +kernel⟩ ⟨by decide, by decide⟩ rfl rfl rfl rfl rfl (by decide) rfl (by decide) (by decide) (fun _ h => absurd h List.not_mem_nil) dX7_best_101 rfl (Nat.le_of_ble_eq_true rfl) ⟨by decide, by decide⟩ (fun r u p_86 => ?_)
                      obtain ⟨rfl, rfl⟩ := p_86
                      have ht2 := tb_b hmo w (h - j)
                      refine g_iadd dX7_best_104 ?_
                      refine g_istore (lv1 := [(7, .int (iI ((tb mo w j) + (tb mo w (h - j))))), (0, .ref m0), (1, .int (iI w)), (2, .int (iI h)), (3, .int (iI qa)), (4, .int (iI qb)), (5, .int (iI v2)), (6, .int (iI j))]) dX7_best_105 (by decide) rfl ?_
                      refine g_iload 0 dX7_best_107 rfl ?_
                      refine g_iload 6 dX7_best_109 rfl ?_
                      refine g_icmp_le (tgt := 119) (by unfold R32; omega) (by unfold R32; omega) dX7_best_111 rfl (fun c_87 => ?_) (fun c_87 => ?_)
                      · refine g_iload 6 dX7_best_119 rfl ?_
                        refine g_istore (lv1 := [(5, .int (iI v2)), (7, .int (iI ((tb mo w j) + (tb mo w (h - j))))), (0, .ref m0), (1, .int (iI w)), (2, .int (iI h)), (3, .int (iI qa)), (4, .int (iI qb)), (6, .int (iI j))]) dX7_best_121 (by decide) rfl ?_
                        refine g_iinc (lv1 := [(6, .int (iI (j + 1))), (5, .int (iI v2)), (7, .int (iI ((tb mo w j) + (tb mo w (h - j))))), (0, .ref m0), (1, .int (iI w)), (2, .int (iI h)), (3, .int (iI qa)), (4, .int (iI qb))]) 7 dX7_best_123 rfl (by decide) rfl ?_
                        refine g_goto (tgt := 82) dX7_best_126 rfl ?_
                        refine g_lv (lv1 := [(0, .ref m0), (1, .int (iI w)), (2, .int (iI h)), (3, .int (iI qa)), (4, .int (iI qb)), (5, .int (iI v2)), (6, .int (iI (j + 1)))]) [3, 4, 5, 6, 7, 1, 0] rfl ?_
                        exact ih82 (j + 1) v2 (by omega) (by omega) (by exact kI_t (by omega) hK2 (by unfold cL; omega)) (by omega)
                      · refine g_iload 0 dX7_best_114 rfl ?_
                        refine g_goto (tgt := 121) dX7_best_116 rfl ?_
                        refine g_istore (lv1 := [(5, .int (iI ((tb mo w j) + (tb mo w (h - j))))), (7, .int (iI ((tb mo w j) + (tb mo w (h - j))))), (0, .ref m0), (1, .int (iI w)), (2, .int (iI h)), (3, .int (iI qa)), (4, .int (iI qb)), (6, .int (iI j))]) dX7_best_121 (by decide) rfl ?_
                        refine g_iinc (lv1 := [(6, .int (iI (j + 1))), (5, .int (iI ((tb mo w j) + (tb mo w (h - j))))), (7, .int (iI ((tb mo w j) + (tb mo w (h - j))))), (0, .ref m0), (1, .int (iI w)), (2, .int (iI h)), (3, .int (iI qa)), (4, .int (iI qb))]) 7 dX7_best_123 rfl (by decide) rfl ?_
                        refine g_goto (tgt := 82) dX7_best_126 rfl ?_
                        refine g_lv (lv1 := [(0, .ref m0), (1, .int (iI w)), (2, .int (iI h)), (3, .int (iI qa)), (4, .int (iI qb)), (5, .int (iI ((tb mo w j) + (tb mo w (h - j))))), (6, .int (iI (j + 1)))]) [3, 4, 5, 6, 7, 1, 0] rfl ?_
                        exact ih82 (j + 1) ((tb mo w j) + (tb mo w (h - j))) (by omega) (by omega) (by exact kI_t (by omega) hK2 (by unfold cL; omega)) (by omega)
                exact L82 _ 1 v1 (by omega) (by omega) (by exact kI_1 _ _) (lt_nn _)
              · refine g_aload_n 0 dX7_best_38 rfl rfl ?_
                refine g_iload 6 dX7_best_39 rfl ?_
                refine g_iload_n 2 dX7_best_41 rfl rfl ?_
                refine g_callV_i (n := 2) (As := [.int (iI k), .int (iI h)]) (wr := []) (C := RX7) [] (c_X7_mostOf E m0 ra mm nf ti so ta go sl lo cn lx ly pm pi mo k h (by omega) (by omega)) [0, 1] [] 0 rfl rfl gX7_best_X7_mostOf rfl ⟨rfl, by decide +kernel⟩ ⟨by decide, by decide⟩ rfl rfl rfl rfl rfl (by decide) rfl (by decide) (by decide) (fun _ h => absurd h List.not_mem_nil) dX7_best_42 rfl (Nat.le_of_ble_eq_true rfl) ⟨by decide, by decide⟩ (fun r u p_88 => ?_)
                obtain ⟨rfl, rfl⟩ := p_88
                have ht1 := tb_b hmo k h
                refine g_aload_n 0 dX7_best_45 rfl rfl ?_
                refine g_iload_n 1 dX7_best_46 rfl rfl ?_
                refine g_iload 6 dX7_best_47 rfl ?_
                refine g_isub dX7_best_49 ?_
                refine g_iload_n 2 dX7_best_50 rfl rfl ?_
                refine g_callV_i (n := 2) (As := [.int (iI (w - k)), .int (iI h)]) (wr := []) (C := RX7) [.int (iI (tb mo k h))] (c_X7_mostOf E m0 ra mm nf ti so ta go sl lo cn lx ly pm pi mo (w - k) h (by omega) (by omega)) [0, 1] [] 0 rfl rfl gX7_best_X7_mostOf rfl ⟨rfl, by decide +kernel⟩ ⟨by decide, by decide⟩ rfl rfl rfl rfl rfl (by decide) rfl (by decide) (by decide) (fun _ h => absurd h List.not_mem_nil) dX7_best_51 rfl (Nat.le_of_ble_eq_true rfl) ⟨by decide, by decide⟩ (fun r u p_89 => ?_)
                obtain ⟨rfl, rfl⟩ := p_89
                have ht2 := tb_b hmo (w - k) h
                refine g_iadd dX7_best_54 ?_
                refine g_istore (lv1 := [(7, .int (iI ((tb mo k h) + (tb mo (w - k) h)))), (0, .ref m0), (1, .int (iI w)), (2, .int (iI h)), (3, .int (iI qa)), (4, .int (iI qb)), (5, .int (iI v1)), (6, .int (iI k))]) dX7_best_55 (by decide) rfl ?_
                refine g_iload 0 dX7_best_57 rfl ?_
                refine g_iload 6 dX7_best_59 rfl ?_
                refine g_icmp_le (tgt := 69) (by unfold R32; omega) (by unfold R32; omega) dX7_best_61 rfl (fun c_90 => ?_) (fun c_90 => ?_)
                · refine g_iload 6 dX7_best_69 rfl ?_
                  refine g_istore (lv1 := [(5, .int (iI v1)), (7, .int (iI ((tb mo k h) + (tb mo (w - k) h)))), (0, .ref m0), (1, .int (iI w)), (2, .int (iI h)), (3, .int (iI qa)), (4, .int (iI qb)), (6, .int (iI k))]) dX7_best_71 (by decide) rfl ?_
                  refine g_iinc (lv1 := [(6, .int (iI (k + 1))), (5, .int (iI v1)), (7, .int (iI ((tb mo k h) + (tb mo (w - k) h)))), (0, .ref m0), (1, .int (iI w)), (2, .int (iI h)), (3, .int (iI qa)), (4, .int (iI qb))]) 7 dX7_best_73 rfl (by decide) rfl ?_
                  refine g_goto (tgt := 32) dX7_best_76 rfl ?_
                  refine g_lv (lv1 := [(0, .ref m0), (1, .int (iI w)), (2, .int (iI h)), (3, .int (iI qa)), (4, .int (iI qb)), (5, .int (iI v1)), (6, .int (iI (k + 1)))]) [3, 4, 5, 6, 7, 1, 0] rfl ?_
                  exact ih32 (k + 1) v1 (by omega) (by omega) (by exact kI_t (by omega) hK1 (by unfold cU; omega)) (by omega)
                · refine g_iload 0 dX7_best_64 rfl ?_
                  refine g_goto (tgt := 71) dX7_best_66 rfl ?_
                  refine g_istore (lv1 := [(5, .int (iI ((tb mo k h) + (tb mo (w - k) h)))), (7, .int (iI ((tb mo k h) + (tb mo (w - k) h)))), (0, .ref m0), (1, .int (iI w)), (2, .int (iI h)), (3, .int (iI qa)), (4, .int (iI qb)), (6, .int (iI k))]) dX7_best_71 (by decide) rfl ?_
                  refine g_iinc (lv1 := [(6, .int (iI (k + 1))), (5, .int (iI ((tb mo k h) + (tb mo (w - k) h)))), (7, .int (iI ((tb mo k h) + (tb mo (w - k) h)))), (0, .ref m0), (1, .int (iI w)), (2, .int (iI h)), (3, .int (iI qa)), (4, .int (iI qb))]) 7 dX7_best_73 rfl (by decide) rfl ?_
                  refine g_goto (tgt := 32) dX7_best_76 rfl ?_
                  refine g_lv (lv1 := [(0, .ref m0), (1, .int (iI w)), (2, .int (iI h)), (3, .int (iI qa)), (4, .int (iI qb)), (5, .int (iI ((tb mo k h) + (tb mo (w - k) h)))), (6, .int (iI (k + 1)))]) [3, 4, 5, 6, 7, 1, 0] rfl ?_
                  exact ih32 (k + 1) ((tb mo k h) + (tb mo (w - k) h)) (by omega) (by omega) (by exact kI_t (by omega) hK1 (by unfold cU; omega)) (by omega)
          exact L32 _ 1 (bs qa qb w h) (by omega) (by omega) (by exact kI_1 _ _) (lt_nn _)
        · refine g_iconst dX7_best_22 ?_
          refine g_goto (tgt := 27) dX7_best_23 rfl ?_
          have hbs := bs_01 qa qb w h
          refine g_top (y := iI (bs qa qb w h)) (congrArg iI (by unfold bs; first | (rw [if_pos (by omega)]; done) | (rw [if_neg (by omega)]; done))) ?_
          refine g_istore (lv1 := [(5, .int (iI (bs qa qb w h))), (0, .ref m0), (1, .int (iI w)), (2, .int (iI h)), (3, .int (iI qa)), (4, .int (iI qb))]) dX7_best_27 (by decide) rfl ?_
          refine g_iconst dX7_best_29 ?_
          refine g_istore (lv1 := [(6, .int (iI 1)), (5, .int (iI (bs qa qb w h))), (0, .ref m0), (1, .int (iI w)), (2, .int (iI h)), (3, .int (iI qa)), (4, .int (iI qb))]) dX7_best_30 (by decide) rfl ?_
          refine g_lv (lv1 := [(0, .ref m0), (1, .int (iI w)), (2, .int (iI h)), (3, .int (iI qa)), (4, .int (iI qb)), (5, .int (iI (bs qa qb w h))), (6, .int (iI 1))]) [2, 3, 4, 5, 6, 1, 0] rfl ?_
          have L32 : ∀ (nn : Nat) (k : Int) (v1 : Int) (hk : 1 ≤ k ∧ k ≤ w) (hv1 : 0 ≤ v1 ∧ v1 ≤ 720) (hK1 : kI (bs qa qb w h) (cU (tb mo) w h) k v1) (hm : w - k < (nn : Int)), G X ({ frames := 2, cells := 0, slots := 0, locals := 48 } : Room) cX7_best 11 RX7 wsX7_best E [] 0 0 [(m0, oo 7 (fMo ra mm nf ti so ta go sl lo cn lx ly pm pi)), (ra 37, aI E 169 mo)] [(0, .ref m0), (1, .int (iI w)), (2, .int (iI h)), (3, .int (iI qa)), (4, .int (iI qb)), (5, .int (iI v1)), (6, .int (iI k))] 32 [] := by
            intro nn
            induction nn with
            | zero => intro k v1 hk hv1 hK1 hm; exfalso; omega
            | succ nn ih32 =>
              intro k v1 hk hv1 hK1 hm
              refine g_iload 6 dX7_best_32 rfl ?_
              refine g_iload_n 1 dX7_best_34 rfl rfl ?_
              refine g_icmp_ge (tgt := 79) (by unfold R32; omega) (by unfold R32; omega) dX7_best_35 rfl (fun c_91 => ?_) (fun c_91 => ?_)
              · refine g_iconst dX7_best_79 ?_
                refine g_istore (lv1 := [(6, .int (iI 1)), (0, .ref m0), (1, .int (iI w)), (2, .int (iI h)), (3, .int (iI qa)), (4, .int (iI qb)), (5, .int (iI v1))]) dX7_best_80 (by decide) rfl ?_
                refine g_lv (lv1 := [(0, .ref m0), (1, .int (iI w)), (2, .int (iI h)), (3, .int (iI qa)), (4, .int (iI qb)), (5, .int (iI v1)), (6, .int (iI 1))]) [1, 2, 3, 4, 5, 6, 0] rfl ?_
                have L82 : ∀ (nn : Nat) (j : Int) (v2 : Int) (hj : 1 ≤ j ∧ j ≤ h) (hv2 : 0 ≤ v2 ∧ v2 ≤ 720) (hK2 : kI v1 (cL (tb mo) w h) j v2) (hm : h - j < (nn : Int)), G X ({ frames := 2, cells := 0, slots := 0, locals := 48 } : Room) cX7_best 11 RX7 wsX7_best E [] 0 0 [(m0, oo 7 (fMo ra mm nf ti so ta go sl lo cn lx ly pm pi)), (ra 37, aI E 169 mo)] [(0, .ref m0), (1, .int (iI w)), (2, .int (iI h)), (3, .int (iI qa)), (4, .int (iI qb)), (5, .int (iI v2)), (6, .int (iI j))] 82 [] := by
                  intro nn
                  induction nn with
                  | zero => intro j v2 hj hv2 hK2 hm; exfalso; omega
                  | succ nn ih82 =>
                    intro j v2 hj hv2 hK2 hm
                    refine g_iload 6 dX7_best_82 rfl ?_
                    refine g_iload_n 2 dX7_best_84 rfl rfl ?_
                    refine g_icmp_ge (tgt := 129) (by unfold R32; omega) (by unfold R32; omega) dX7_best_85 rfl (fun c_92 => ?_) (fun c_92 => ?_)
                    · refine g_iconst dX7_best_129 ?_
                      refine g_istore (lv1 := [(6, .int (iI 1)), (0, .ref m0), (1, .int (iI w)), (2, .int (iI h)), (3, .int (iI qa)), (4, .int (iI qb)), (5, .int (iI v2))]) dX7_best_130 (by decide) rfl ?_
                      refine g_lv (lv1 := [(0, .ref m0), (1, .int (iI w)), (2, .int (iI h)), (3, .int (iI qa)), (4, .int (iI qb)), (5, .int (iI v2)), (6, .int (iI 1))]) [1, 2, 3, 4, 5, 6, 0] rfl ?_
                      have L132 : ∀ (nn : Nat) (x1 : Int) (b1 : Int) (hx1 : 1 ≤ x1 ∧ x1 ≤ 12) (hb1 : 0 ≤ b1 ∧ b1 ≤ 720) (hI1 : wJ (tb mo) w h (4096 * x1) v2 b1) (hm : 12 - x1 < (nn : Int)), G X ({ frames := 2, cells := 0, slots := 0, locals := 48 } : Room) cX7_best 11 RX7 wsX7_best E [] 0 0 [(m0, oo 7 (fMo ra mm nf ti so ta go sl lo cn lx ly pm pi)), (ra 37, aI E 169 mo)] [(0, .ref m0), (1, .int (iI w)), (2, .int (iI h)), (3, .int (iI qa)), (4, .int (iI qb)), (5, .int (iI b1)), (6, .int (iI x1))] 132 [] := by
                        intro nn
                        induction nn with
                        | zero => intro x1 b1 hx1 hb1 hI1 hm; exfalso; omega
                        | succ nn ih132 =>
                          intro x1 b1 hx1 hb1 hI1 hm
                          have hS : isS qa qb (tb mo) w h v2 := kI_S (show k = w by omega) (show j = h by omega) hK1 hK2
                          refine g_iload 6 dX7_best_132 rfl ?_
                          refine g_iload_n 1 dX7_best_134 rfl rfl ?_
                          refine g_icmp_ge (tgt := 227) (by unfold R32; omega) (by unfold R32; omega) dX7_best_135 rfl (fun c_93 => ?_) (fun c_93 => ?_)
                          · refine g_iload 5 dX7_best_227 rfl ?_
                            exact g_iret hRet dX7_best_229 rfl ⟨b1, (by exact isB_all hS (by omega) hI1.1 hI1.2.1 hI1.2.2 (by omega) (by omega)), rfl, rfl⟩
                          · refine g_iload 6 dX7_best_138 rfl ?_
                            refine g_iconst dX7_best_140 ?_
                            refine g_iadd dX7_best_141 ?_
                            refine g_istore (lv1 := [(7, .int (iI (x1 + 1))), (0, .ref m0), (1, .int (iI w)), (2, .int (iI h)), (3, .int (iI qa)), (4, .int (iI qb)), (5, .int (iI b1)), (6, .int (iI x1))]) dX7_best_142 (by decide) rfl ?_
                            refine g_lv (lv1 := [(0, .ref m0), (1, .int (iI w)), (2, .int (iI h)), (3, .int (iI qa)), (4, .int (iI qb)), (5, .int (iI b1)), (6, .int (iI x1)), (7, .int (iI (x1 + 1)))]) [1, 2, 3, 4, 5, 6, 7, 0] rfl ?_
                            have L144 : ∀ (nn : Nat) (x2 : Int) (b2 : Int) (hx2 : x1 < x2 ∧ x2 ≤ 12) (hb2 : 0 ≤ b2 ∧ b2 ≤ 720) (hI2 : wJ (tb mo) w h (4096 * x1 + 256 * x2) v2 b2) (hm : 12 - x2 < (nn : Int)), G X ({ frames := 2, cells := 0, slots := 0, locals := 48 } : Room) cX7_best 11 RX7 wsX7_best E [] 0 0 [(m0, oo 7 (fMo ra mm nf ti so ta go sl lo cn lx ly pm pi)), (ra 37, aI E 169 mo)] [(0, .ref m0), (1, .int (iI w)), (2, .int (iI h)), (3, .int (iI qa)), (4, .int (iI qb)), (5, .int (iI b2)), (6, .int (iI x1)), (7, .int (iI x2))] 144 [] := by
                              intro nn
                              induction nn with
                              | zero => intro x2 b2 hx2 hb2 hI2 hm; exfalso; omega
                              | succ nn ih144 =>
                                intro x2 b2 hx2 hb2 hI2 hm
                                refine g_iload 7 dX7_best_144 rfl ?_
                                refine g_iload_n 1 dX7_best_146 rfl rfl ?_
                                refine g_icmp_ge (tgt := 221) (by unfold R32; omega) (by unfold R32; omega) dX7_best_147 rfl (fun c_94 => ?_) (fun c_94 => ?_)
                                · refine g_iinc (lv1 := [(6, .int (iI (x1 + 1))), (0, .ref m0), (1, .int (iI w)), (2, .int (iI h)), (3, .int (iI qa)), (4, .int (iI qb)), (5, .int (iI b2)), (7, .int (iI x2))]) 6 dX7_best_221 rfl (by decide) rfl ?_
                                  refine g_goto (tgt := 132) dX7_best_224 rfl ?_
                                  refine g_lv (lv1 := [(0, .ref m0), (1, .int (iI w)), (2, .int (iI h)), (3, .int (iI qa)), (4, .int (iI qb)), (5, .int (iI b2)), (6, .int (iI (x1 + 1)))]) [1, 2, 3, 4, 5, 6, 0] rfl ?_
                                  exact ih132 (x1 + 1) b2 (by omega) (by omega) (by exact ⟨aK_e2 (by omega) (by omega) (by omega) (by omega) hI2.1, hI2.2⟩) (by omega)
                                · refine g_iconst dX7_best_150 ?_
                                  refine g_istore (lv1 := [(8, .int (iI 1)), (0, .ref m0), (1, .int (iI w)), (2, .int (iI h)), (3, .int (iI qa)), (4, .int (iI qb)), (5, .int (iI b2)), (6, .int (iI x1)), (7, .int (iI x2))]) dX7_best_151 (by decide) rfl ?_
                                  refine g_lv (lv1 := [(0, .ref m0), (1, .int (iI w)), (2, .int (iI h)), (3, .int (iI qa)), (4, .int (iI qb)), (5, .int (iI b2)), (6, .int (iI x1)), (7, .int (iI x2)), (8, .int (iI 1))]) [1, 2, 3, 4, 5, 6, 7, 8, 0] rfl ?_
                                  have L153 : ∀ (nn : Nat) (y1 : Int) (b3 : Int) (hx3 : 1 ≤ y1 ∧ y1 ≤ 12) (hb3 : 0 ≤ b3 ∧ b3 ≤ 720) (hI3 : wJ (tb mo) w h (4096 * x1 + 256 * x2 + 16 * y1) v2 b3) (hm : 12 - y1 < (nn : Int)), G X ({ frames := 2, cells := 0, slots := 0, locals := 48 } : Room) cX7_best 11 RX7 wsX7_best E [] 0 0 [(m0, oo 7 (fMo ra mm nf ti so ta go sl lo cn lx ly pm pi)), (ra 37, aI E 169 mo)] [(0, .ref m0), (1, .int (iI w)), (2, .int (iI h)), (3, .int (iI qa)), (4, .int (iI qb)), (5, .int (iI b3)), (6, .int (iI x1)), (7, .int (iI x2)), (8, .int (iI y1))] 153 [] := by
                                    intro nn
                                    induction nn with
                                    | zero => intro y1 b3 hx3 hb3 hI3 hm; exfalso; omega
                                    | succ nn ih153 =>
                                      intro y1 b3 hx3 hb3 hI3 hm
                                      refine g_iload 8 dX7_best_153 rfl ?_
                                      refine g_iload_n 2 dX7_best_155 rfl rfl ?_
                                      refine g_icmp_ge (tgt := 215) (by unfold R32; omega) (by unfold R32; omega) dX7_best_156 rfl (fun c_95 => ?_) (fun c_95 => ?_)
                                      · refine g_iinc (lv1 := [(7, .int (iI (x2 + 1))), (0, .ref m0), (1, .int (iI w)), (2, .int (iI h)), (3, .int (iI qa)), (4, .int (iI qb)), (5, .int (iI b3)), (6, .int (iI x1)), (8, .int (iI y1))]) 7 dX7_best_215 rfl (by decide) rfl ?_
                                        refine g_goto (tgt := 144) dX7_best_218 rfl ?_
                                        refine g_lv (lv1 := [(0, .ref m0), (1, .int (iI w)), (2, .int (iI h)), (3, .int (iI qa)), (4, .int (iI qb)), (5, .int (iI b3)), (6, .int (iI x1)), (7, .int (iI (x2 + 1)))]) [1, 2, 3, 4, 5, 6, 7, 0] rfl ?_
                                        exact ih144 (x2 + 1) b3 (by omega) (by omega) (by exact ⟨aK_e3 (by omega) (by omega) (by omega) (by omega) hI3.1, hI3.2⟩) (by omega)
                                      · refine g_iload 8 dX7_best_159 rfl ?_
                                        refine g_iconst dX7_best_161 ?_
                                        refine g_iadd dX7_best_162 ?_
                                        refine g_istore (lv1 := [(9, .int (iI (y1 + 1))), (0, .ref m0), (1, .int (iI w)), (2, .int (iI h)), (3, .int (iI qa)), (4, .int (iI qb)), (5, .int (iI b3)), (6, .int (iI x1)), (7, .int (iI x2)), (8, .int (iI y1))]) dX7_best_163 (by decide) rfl ?_
                                        refine g_lv (lv1 := [(0, .ref m0), (1, .int (iI w)), (2, .int (iI h)), (3, .int (iI qa)), (4, .int (iI qb)), (5, .int (iI b3)), (6, .int (iI x1)), (7, .int (iI x2)), (8, .int (iI y1)), (9, .int (iI (y1 + 1)))]) [1, 2, 3, 4, 5, 6, 7, 8, 9, 0] rfl ?_
                                        have L165 : ∀ (nn : Nat) (y2 : Int) (b4 : Int) (hx4 : y1 < y2 ∧ y2 ≤ 12) (hb4 : 0 ≤ b4 ∧ b4 ≤ 720) (hI4 : wJ (tb mo) w h (4096 * x1 + 256 * x2 + 16 * y1 + y2) v2 b4) (hm : 12 - y2 < (nn : Int)), G X ({ frames := 2, cells := 0, slots := 0, locals := 48 } : Room) cX7_best 11 RX7 wsX7_best E [] 0 0 [(m0, oo 7 (fMo ra mm nf ti so ta go sl lo cn lx ly pm pi)), (ra 37, aI E 169 mo)] [(0, .ref m0), (1, .int (iI w)), (2, .int (iI h)), (3, .int (iI qa)), (4, .int (iI qb)), (5, .int (iI b4)), (6, .int (iI x1)), (7, .int (iI x2)), (8, .int (iI y1)), (9, .int (iI y2))] 165 [] := by
                                          intro nn
                                          induction nn with
                                          | zero => intro y2 b4 hx4 hb4 hI4 hm; exfalso; omega
                                          | succ nn ih165 =>
                                            intro y2 b4 hx4 hb4 hI4 hm
                                            refine g_iload 9 dX7_best_165 rfl ?_
                                            refine g_iload_n 2 dX7_best_167 rfl rfl ?_
                                            refine g_icmp_ge (tgt := 209) (by unfold R32; omega) (by unfold R32; omega) dX7_best_168 rfl (fun c_96 => ?_) (fun c_96 => ?_)
                                            · refine g_iinc (lv1 := [(8, .int (iI (y1 + 1))), (0, .ref m0), (1, .int (iI w)), (2, .int (iI h)), (3, .int (iI qa)), (4, .int (iI qb)), (5, .int (iI b4)), (6, .int (iI x1)), (7, .int (iI x2)), (9, .int (iI y2))]) 8 dX7_best_209 rfl (by decide) rfl ?_
                                              refine g_goto (tgt := 153) dX7_best_212 rfl ?_
                                              refine g_lv (lv1 := [(0, .ref m0), (1, .int (iI w)), (2, .int (iI h)), (3, .int (iI qa)), (4, .int (iI qb)), (5, .int (iI b4)), (6, .int (iI x1)), (7, .int (iI x2)), (8, .int (iI (y1 + 1)))]) [1, 2, 3, 4, 5, 6, 7, 8, 0] rfl ?_
                                              exact ih153 (y1 + 1) b4 (by omega) (by omega) (by exact ⟨aK_e4 (by omega) (by omega) (by omega) (by omega) hI4.1, hI4.2⟩) (by omega)
                                            · refine g_aload_n 0 dX7_best_171 rfl rfl ?_
                                              refine g_iload_n 1 dX7_best_172 rfl rfl ?_
                                              refine g_iload_n 2 dX7_best_173 rfl rfl ?_
                                              refine g_iload 6 dX7_best_174 rfl ?_
                                              refine g_iload 7 dX7_best_176 rfl ?_
                                              refine g_iload 8 dX7_best_178 rfl ?_
                                              refine g_iload 9 dX7_best_180 rfl ?_
                                              refine g_callV_i (n := 6) (As := [.int (iI w), .int (iI h), .int (iI x1), .int (iI x2), .int (iI y1), .int (iI y2)]) (wr := []) (C := RX7) [] (c_X7_wheel E m0 ra mm nf ti so ta go sl lo cn lx ly pm pi mo w h x1 x2 y1 y2 (by omega) (by omega) (by unfold vN; omega)) [0, 1] [] 0 rfl rfl gX7_best_X7_wheel rfl ⟨rfl, by decide +kernel⟩ ⟨by decide, by decide⟩ rfl rfl rfl rfl rfl (by decide) rfl (by decide) (by decide) (fun _ h => absurd h List.not_mem_nil) dX7_best_182 rfl (Nat.le_of_ble_eq_true rfl) ⟨by decide, by decide⟩ (fun r u p_97 => ?_)
                                              obtain ⟨rfl, rfl⟩ := p_97
                                              have hcp := cP_b hmo w h x1 x2 y1 y2
                                              refine g_istore (lv1 := [(10, .int (iI (cP (tb mo) w h x1 x2 y1 y2))), (0, .ref m0), (1, .int (iI w)), (2, .int (iI h)), (3, .int (iI qa)), (4, .int (iI qb)), (5, .int (iI b4)), (6, .int (iI x1)), (7, .int (iI x2)), (8, .int (iI y1)), (9, .int (iI y2))]) dX7_best_185 (by decide) rfl ?_
                                              refine g_iload 0 dX7_best_187 rfl ?_
                                              refine g_iload 6 dX7_best_189 rfl ?_
                                              refine g_icmp_le (tgt := 199) (by unfold R32; omega) (by unfold R32; omega) dX7_best_191 rfl (fun c_98 => ?_) (fun c_98 => ?_)
                                              · refine g_iload 6 dX7_best_199 rfl ?_
                                                refine g_istore (lv1 := [(5, .int (iI b4)), (10, .int (iI (cP (tb mo) w h x1 x2 y1 y2))), (0, .ref m0), (1, .int (iI w)), (2, .int (iI h)), (3, .int (iI qa)), (4, .int (iI qb)), (6, .int (iI x1)), (7, .int (iI x2)), (8, .int (iI y1)), (9, .int (iI y2))]) dX7_best_201 (by decide) rfl ?_
                                                refine g_iinc (lv1 := [(9, .int (iI (y2 + 1))), (5, .int (iI b4)), (10, .int (iI (cP (tb mo) w h x1 x2 y1 y2))), (0, .ref m0), (1, .int (iI w)), (2, .int (iI h)), (3, .int (iI qa)), (4, .int (iI qb)), (6, .int (iI x1)), (7, .int (iI x2)), (8, .int (iI y1))]) 10 dX7_best_203 rfl (by decide) rfl ?_
                                                refine g_goto (tgt := 165) dX7_best_206 rfl ?_
                                                refine g_lv (lv1 := [(0, .ref m0), (1, .int (iI w)), (2, .int (iI h)), (3, .int (iI qa)), (4, .int (iI qb)), (5, .int (iI b4)), (6, .int (iI x1)), (7, .int (iI x2)), (8, .int (iI y1)), (9, .int (iI (y2 + 1)))]) [3, 4, 5, 6, 7, 1, 8, 9, 10, 0] rfl ?_
                                                exact ih165 (y2 + 1) b4 (by omega) (by omega) (by exact wJ_t (by omega) (by omega) (by unfold vN; omega) hI4 (by omega)) (by omega)
                                              · refine g_iload 0 dX7_best_194 rfl ?_
                                                refine g_goto (tgt := 201) dX7_best_196 rfl ?_
                                                refine g_istore (lv1 := [(5, .int (iI (cP (tb mo) w h x1 x2 y1 y2))), (10, .int (iI (cP (tb mo) w h x1 x2 y1 y2))), (0, .ref m0), (1, .int (iI w)), (2, .int (iI h)), (3, .int (iI qa)), (4, .int (iI qb)), (6, .int (iI x1)), (7, .int (iI x2)), (8, .int (iI y1)), (9, .int (iI y2))]) dX7_best_201 (by decide) rfl ?_
                                                refine g_iinc (lv1 := [(9, .int (iI (y2 + 1))), (5, .int (iI (cP (tb mo) w h x1 x2 y1 y2))), (10, .int (iI (cP (tb mo) w h x1 x2 y1 y2))), (0, .ref m0), (1, .int (iI w)), (2, .int (iI h)), (3, .int (iI qa)), (4, .int (iI qb)), (6, .int (iI x1)), (7, .int (iI x2)), (8, .int (iI y1))]) 10 dX7_best_203 rfl (by decide) rfl ?_
                                                refine g_goto (tgt := 165) dX7_best_206 rfl ?_
                                                refine g_lv (lv1 := [(0, .ref m0), (1, .int (iI w)), (2, .int (iI h)), (3, .int (iI qa)), (4, .int (iI qb)), (5, .int (iI (cP (tb mo) w h x1 x2 y1 y2))), (6, .int (iI x1)), (7, .int (iI x2)), (8, .int (iI y1)), (9, .int (iI (y2 + 1)))]) [3, 4, 5, 6, 7, 1, 8, 9, 10, 0] rfl ?_
                                                exact ih165 (y2 + 1) (cP (tb mo) w h x1 x2 y1 y2) (by omega) (by omega) (by exact wJ_t (by omega) (by omega) (by unfold vN; omega) hI4 (by omega)) (by omega)
                                        exact L165 _ (y1 + 1) b3 (by omega) (by omega) (by exact ⟨aK_y2 (hy := by omega) (by omega) (by omega) (by omega) hI3.1, hI3.2⟩) (lt_nn _)
                                  exact L153 _ 1 b2 (by omega) (by omega) (by exact ⟨aK_y1  (by omega) (by omega) (by omega) hI2.1, hI2.2⟩) (lt_nn _)
                            exact L144 _ (x1 + 1) b1 (by omega) (by omega) (by exact ⟨aK_x2  (by omega) (by omega) (by omega) hI1.1, hI1.2⟩) (lt_nn _)
                      exact L132 _ 1 v2 (by omega) (by omega) (by exact ⟨aK_0 (by omega) (by omega) (by omega), by omega, Or.inl rfl⟩) (lt_nn _)
                    · refine g_aload_n 0 dX7_best_88 rfl rfl ?_
                      refine g_iload_n 1 dX7_best_89 rfl rfl ?_
                      refine g_iload 6 dX7_best_90 rfl ?_
                      refine g_callV_i (n := 2) (As := [.int (iI w), .int (iI j)]) (wr := []) (C := RX7) [] (c_X7_mostOf E m0 ra mm nf ti so ta go sl lo cn lx ly pm pi mo w j (by omega) (by omega)) [0, 1] [] 0 rfl rfl gX7_best_X7_mostOf rfl ⟨rfl, by decide +kernel⟩ ⟨by decide, by decide⟩ rfl rfl rfl rfl rfl (by decide) rfl (by decide) (by decide) (fun _ h => absurd h List.not_mem_nil) dX7_best_92 rfl (Nat.le_of_ble_eq_true rfl) ⟨by decide, by decide⟩ (fun r u p_99 => ?_)
                      obtain ⟨rfl, rfl⟩ := p_99
                      have ht1 := tb_b hmo w j
                      refine g_aload_n 0 dX7_best_95 rfl rfl ?_
                      refine g_iload_n 1 dX7_best_96 rfl rfl ?_
                      refine g_iload_n 2 dX7_best_97 rfl rfl ?_
                      refine g_iload 6 dX7_best_98 rfl ?_
                      refine g_isub dX7_best_100 ?_
                      refine g_callV_i (n := 2) (As := [.int (iI w), .int (iI (h - j))]) (wr := []) (C := RX7) [.int (iI (tb mo w j))] (c_X7_mostOf E m0 ra mm nf ti so ta go sl lo cn lx ly pm pi mo w (h - j) (by omega) (by omega)) [0, 1] [] 0 rfl rfl gX7_best_X7_mostOf rfl ⟨rfl, by decide +kernel⟩ ⟨by decide, by decide⟩ rfl rfl rfl rfl rfl (by decide) rfl (by decide) (by decide) (fun _ h => absurd h List.not_mem_nil) dX7_best_101 rfl (Nat.le_of_ble_eq_true rfl) ⟨by decide, by decide⟩ (fun r u p_100 => ?_)
                      obtain ⟨rfl, rfl⟩ := p_100
                      have ht2 := tb_b hmo w (h - j)
                      refine g_iadd dX7_best_104 ?_
                      refine g_istore (lv1 := [(7, .int (iI ((tb mo w j) + (tb mo w (h - j))))), (0, .ref m0), (1, .int (iI w)), (2, .int (iI h)), (3, .int (iI qa)), (4, .int (iI qb)), (5, .int (iI v2)), (6, .int (iI j))]) dX7_best_105 (by decide) rfl ?_
                      refine g_iload 0 dX7_best_107 rfl ?_
                      refine g_iload 6 dX7_best_109 rfl ?_
                      refine g_icmp_le (tgt := 119) (by unfold R32; omega) (by unfold R32; omega) dX7_best_111 rfl (fun c_101 => ?_) (fun c_101 => ?_)
                      · refine g_iload 6 dX7_best_119 rfl ?_
                        refine g_istore (lv1 := [(5, .int (iI v2)), (7, .int (iI ((tb mo w j) + (tb mo w (h - j))))), (0, .ref m0), (1, .int (iI w)), (2, .int (iI h)), (3, .int (iI qa)), (4, .int (iI qb)), (6, .int (iI j))]) dX7_best_121 (by decide) rfl ?_
                        refine g_iinc (lv1 := [(6, .int (iI (j + 1))), (5, .int (iI v2)), (7, .int (iI ((tb mo w j) + (tb mo w (h - j))))), (0, .ref m0), (1, .int (iI w)), (2, .int (iI h)), (3, .int (iI qa)), (4, .int (iI qb))]) 7 dX7_best_123 rfl (by decide) rfl ?_
                        refine g_goto (tgt := 82) dX7_best_126 rfl ?_
                        refine g_lv (lv1 := [(0, .ref m0), (1, .int (iI w)), (2, .int (iI h)), (3, .int (iI qa)), (4, .int (iI qb)), (5, .int (iI v2)), (6, .int (iI (j + 1)))]) [3, 4, 5, 6, 7, 1, 0] rfl ?_
                        exact ih82 (j + 1) v2 (by omega) (by omega) (by exact kI_t (by omega) hK2 (by unfold cL; omega)) (by omega)
                      · refine g_iload 0 dX7_best_114 rfl ?_
                        refine g_goto (tgt := 121) dX7_best_116 rfl ?_
                        refine g_istore (lv1 := [(5, .int (iI ((tb mo w j) + (tb mo w (h - j))))), (7, .int (iI ((tb mo w j) + (tb mo w (h - j))))), (0, .ref m0), (1, .int (iI w)), (2, .int (iI h)), (3, .int (iI qa)), (4, .int (iI qb)), (6, .int (iI j))]) dX7_best_121 (by decide) rfl ?_
                        refine g_iinc (lv1 := [(6, .int (iI (j + 1))), (5, .int (iI ((tb mo w j) + (tb mo w (h - j))))), (7, .int (iI ((tb mo w j) + (tb mo w (h - j))))), (0, .ref m0), (1, .int (iI w)), (2, .int (iI h)), (3, .int (iI qa)), (4, .int (iI qb))]) 7 dX7_best_123 rfl (by decide) rfl ?_
                        refine g_goto (tgt := 82) dX7_best_126 rfl ?_
                        refine g_lv (lv1 := [(0, .ref m0), (1, .int (iI w)), (2, .int (iI h)), (3, .int (iI qa)), (4, .int (iI qb)), (5, .int (iI ((tb mo w j) + (tb mo w (h - j))))), (6, .int (iI (j + 1)))]) [3, 4, 5, 6, 7, 1, 0] rfl ?_
                        exact ih82 (j + 1) ((tb mo w j) + (tb mo w (h - j))) (by omega) (by omega) (by exact kI_t (by omega) hK2 (by unfold cL; omega)) (by omega)
                exact L82 _ 1 v1 (by omega) (by omega) (by exact kI_1 _ _) (lt_nn _)
              · refine g_aload_n 0 dX7_best_38 rfl rfl ?_
                refine g_iload 6 dX7_best_39 rfl ?_
                refine g_iload_n 2 dX7_best_41 rfl rfl ?_
                refine g_callV_i (n := 2) (As := [.int (iI k), .int (iI h)]) (wr := []) (C := RX7) [] (c_X7_mostOf E m0 ra mm nf ti so ta go sl lo cn lx ly pm pi mo k h (by omega) (by omega)) [0, 1] [] 0 rfl rfl gX7_best_X7_mostOf rfl ⟨rfl, by decide +kernel⟩ ⟨by decide, by decide⟩ rfl rfl rfl rfl rfl (by decide) rfl (by decide) (by decide) (fun _ h => absurd h List.not_mem_nil) dX7_best_42 rfl (Nat.le_of_ble_eq_true rfl) ⟨by decide, by decide⟩ (fun r u p_102 => ?_)
                obtain ⟨rfl, rfl⟩ := p_102
                have ht1 := tb_b hmo k h
                refine g_aload_n 0 dX7_best_45 rfl rfl ?_
                refine g_iload_n 1 dX7_best_46 rfl rfl ?_
                refine g_iload 6 dX7_best_47 rfl ?_
                refine g_isub dX7_best_49 ?_
                refine g_iload_n 2 dX7_best_50 rfl rfl ?_
                refine g_callV_i (n := 2) (As := [.int (iI (w - k)), .int (iI h)]) (wr := []) (C := RX7) [.int (iI (tb mo k h))] (c_X7_mostOf E m0 ra mm nf ti so ta go sl lo cn lx ly pm pi mo (w - k) h (by omega) (by omega)) [0, 1] [] 0 rfl rfl gX7_best_X7_mostOf rfl ⟨rfl, by decide +kernel⟩ ⟨by decide, by decide⟩ rfl rfl rfl rfl rfl (by decide) rfl (by decide) (by decide) (fun _ h => absurd h List.not_mem_nil) dX7_best_51 rfl (Nat.le_of_ble_eq_true rfl) ⟨by decide, by decide⟩ (fun r u p_103 => ?_)
                obtain ⟨rfl, rfl⟩ := p_103
                have ht2 := tb_b hmo (w - k) h
                refine g_iadd dX7_best_54 ?_
                refine g_istore (lv1 := [(7, .int (iI ((tb mo k h) + (tb mo (w - k) h)))), (0, .ref m0), (1, .int (iI w)), (2, .int (iI h)), (3, .int (iI qa)), (4, .int (iI qb)), (5, .int (iI v1)), (6, .int (iI k))]) dX7_best_55 (by decide) rfl ?_
                refine g_iload 0 dX7_best_57 rfl ?_
                refine g_iload 6 dX7_best_59 rfl ?_
                refine g_icmp_le (tgt := 69) (by unfold R32; omega) (by unfold R32; omega) dX7_best_61 rfl (fun c_104 => ?_) (fun c_104 => ?_)
                · refine g_iload 6 dX7_best_69 rfl ?_
                  refine g_istore (lv1 := [(5, .int (iI v1)), (7, .int (iI ((tb mo k h) + (tb mo (w - k) h)))), (0, .ref m0), (1, .int (iI w)), (2, .int (iI h)), (3, .int (iI qa)), (4, .int (iI qb)), (6, .int (iI k))]) dX7_best_71 (by decide) rfl ?_
                  refine g_iinc (lv1 := [(6, .int (iI (k + 1))), (5, .int (iI v1)), (7, .int (iI ((tb mo k h) + (tb mo (w - k) h)))), (0, .ref m0), (1, .int (iI w)), (2, .int (iI h)), (3, .int (iI qa)), (4, .int (iI qb))]) 7 dX7_best_73 rfl (by decide) rfl ?_
                  refine g_goto (tgt := 32) dX7_best_76 rfl ?_
                  refine g_lv (lv1 := [(0, .ref m0), (1, .int (iI w)), (2, .int (iI h)), (3, .int (iI qa)), (4, .int (iI qb)), (5, .int (iI v1)), (6, .int (iI (k + 1)))]) [3, 4, 5, 6, 7, 1, 0] rfl ?_
                  exact ih32 (k + 1) v1 (by omega) (by omega) (by exact kI_t (by omega) hK1 (by unfold cU; omega)) (by omega)
                · refine g_iload 0 dX7_best_64 rfl ?_
                  refine g_goto (tgt := 71) dX7_best_66 rfl ?_
                  refine g_istore (lv1 := [(5, .int (iI ((tb mo k h) + (tb mo (w - k) h)))), (7, .int (iI ((tb mo k h) + (tb mo (w - k) h)))), (0, .ref m0), (1, .int (iI w)), (2, .int (iI h)), (3, .int (iI qa)), (4, .int (iI qb)), (6, .int (iI k))]) dX7_best_71 (by decide) rfl ?_
                  refine g_iinc (lv1 := [(6, .int (iI (k + 1))), (5, .int (iI ((tb mo k h) + (tb mo (w - k) h)))), (7, .int (iI ((tb mo k h) + (tb mo (w - k) h)))), (0, .ref m0), (1, .int (iI w)), (2, .int (iI h)), (3, .int (iI qa)), (4, .int (iI qb))]) 7 dX7_best_73 rfl (by decide) rfl ?_
                  refine g_goto (tgt := 32) dX7_best_76 rfl ?_
                  refine g_lv (lv1 := [(0, .ref m0), (1, .int (iI w)), (2, .int (iI h)), (3, .int (iI qa)), (4, .int (iI qb)), (5, .int (iI ((tb mo k h) + (tb mo (w - k) h)))), (6, .int (iI (k + 1)))]) [3, 4, 5, 6, 7, 1, 0] rfl ?_
                  exact ih32 (k + 1) ((tb mo k h) + (tb mo (w - k) h)) (by omega) (by omega) (by exact kI_t (by omega) hK1 (by unfold cU; omega)) (by omega)
          exact L32 _ 1 (bs qa qb w h) (by omega) (by omega) (by exact kI_1 _ _) (lt_nn _)

set_option maxHeartbeats 4000000 in
set_option maxRecDepth 100000 in
theorem c_X7_piles (E : Ev) (m0 : Nat) (ra : Nat → Nat) (mm : Int) (nf : Int) (ti : Int) (so : Int) (ta : Int) (go : Int) (sl : Int) (lo : Int) (cn : Int) (lx : Int) (ly : Int) (pm : Int) (pi : Int) (zt : Int → Int) (l : Int) (lw : Int) (w : Int) (h : Int) (hpi : 0 ≤ pi ∧ pi < 144) : MV yX7_piles wsX7_piles ({ frames := 0, cells := 0, slots := 0, locals := 0 } : Room) E [] 0 0 [.ref m0, .int (iI l), .int (iI lw), .int (iI w), .int (iI h)] [(m0, oo 7 (fMo ra mm nf ti so ta go sl lo cn lx ly pm pi)), (ra 41, aI E 1200 zt)] (fun u => u = [(m0, oo 7 (fMo ra mm nf ti so ta go sl lo cn lx ly pm (pi + 1))), (ra 41, aI E 1200 (up (up (up (up zt (4 * pi) l) (4 * pi + 1) lw) (4 * pi + 2) w) (4 * pi + 3) h))]) := by
  refine MV.of (cc := cX7_piles) (maxL := 5) (own := RX7) (by decide) rfl rfl rfl (Nat.le_of_ble_eq_true rfl) [(0, .ref m0), (1, .int (iI l)), (2, .int (iI lw)), (3, .int (iI w)), (4, .int (iI h))] rfl ?_
  intro X hin2 hRet
  refine g_aload_n 0 dX7_piles_0 rfl rfl ?_
  refine g_get (C := RX7) (T := TX7) (N := 43) 0 41 (fun _ h => List.mem_cons_of_mem _ (List.mem_append_right _ h)) (List.mem_of_getElem? (i := 1) rfl) rfl rfl (by decide) rfl rfl dX7_piles_1 ?_
  refine g_iconst dX7_piles_4 ?_
  refine g_aload_n 0 dX7_piles_5 rfl rfl ?_
  refine g_get (C := RX7) (T := TX7) (N := 43) 0 40 (fun _ h => List.mem_cons_of_mem _ (List.mem_append_right _ h)) (List.mem_of_getElem? (i := 2) rfl) rfl rfl (by decide) rfl rfl dX7_piles_6 ?_
  refine g_imul dX7_piles_9 ?_
  refine g_iload_n 1 dX7_piles_10 rfl rfl ?_
  refine g_iast (ws1 := [(m0, oo 7 (fMo ra mm nf ti so ta go sl lo cn lx ly pm pi)), (ra 41, aI E 1200 (up zt (4 * pi) l))]) 1 dX7_piles_11 rfl rfl (by decide) (by omega) (by omega) ?_
  refine g_aload_n 0 dX7_piles_12 rfl rfl ?_
  refine g_get (C := RX7) (T := TX7) (N := 43) 0 41 (fun _ h => List.mem_cons_of_mem _ (List.mem_append_right _ h)) (List.mem_of_getElem? (i := 1) rfl) rfl rfl (by decide) rfl rfl dX7_piles_13 ?_
  refine g_iconst dX7_piles_16 ?_
  refine g_aload_n 0 dX7_piles_17 rfl rfl ?_
  refine g_get (C := RX7) (T := TX7) (N := 43) 0 40 (fun _ h => List.mem_cons_of_mem _ (List.mem_append_right _ h)) (List.mem_of_getElem? (i := 2) rfl) rfl rfl (by decide) rfl rfl dX7_piles_18 ?_
  refine g_imul dX7_piles_21 ?_
  refine g_iconst dX7_piles_22 ?_
  refine g_iadd dX7_piles_23 ?_
  refine g_iload_n 2 dX7_piles_24 rfl rfl ?_
  refine g_iast (ws1 := [(m0, oo 7 (fMo ra mm nf ti so ta go sl lo cn lx ly pm pi)), (ra 41, aI E 1200 (up (up zt (4 * pi) l) ((4 * pi) + 1) lw))]) 1 dX7_piles_25 rfl rfl (by decide) (by omega) (by omega) ?_
  refine g_aload_n 0 dX7_piles_26 rfl rfl ?_
  refine g_get (C := RX7) (T := TX7) (N := 43) 0 41 (fun _ h => List.mem_cons_of_mem _ (List.mem_append_right _ h)) (List.mem_of_getElem? (i := 1) rfl) rfl rfl (by decide) rfl rfl dX7_piles_27 ?_
  refine g_iconst dX7_piles_30 ?_
  refine g_aload_n 0 dX7_piles_31 rfl rfl ?_
  refine g_get (C := RX7) (T := TX7) (N := 43) 0 40 (fun _ h => List.mem_cons_of_mem _ (List.mem_append_right _ h)) (List.mem_of_getElem? (i := 2) rfl) rfl rfl (by decide) rfl rfl dX7_piles_32 ?_
  refine g_imul dX7_piles_35 ?_
  refine g_iconst dX7_piles_36 ?_
  refine g_iadd dX7_piles_37 ?_
  refine g_iload_n 3 dX7_piles_38 rfl rfl ?_
  refine g_iast (ws1 := [(m0, oo 7 (fMo ra mm nf ti so ta go sl lo cn lx ly pm pi)), (ra 41, aI E 1200 (up (up (up zt (4 * pi) l) ((4 * pi) + 1) lw) ((4 * pi) + 2) w))]) 1 dX7_piles_39 rfl rfl (by decide) (by omega) (by omega) ?_
  refine g_aload_n 0 dX7_piles_40 rfl rfl ?_
  refine g_get (C := RX7) (T := TX7) (N := 43) 0 41 (fun _ h => List.mem_cons_of_mem _ (List.mem_append_right _ h)) (List.mem_of_getElem? (i := 1) rfl) rfl rfl (by decide) rfl rfl dX7_piles_41 ?_
  refine g_iconst dX7_piles_44 ?_
  refine g_aload_n 0 dX7_piles_45 rfl rfl ?_
  refine g_get (C := RX7) (T := TX7) (N := 43) 0 40 (fun _ h => List.mem_cons_of_mem _ (List.mem_append_right _ h)) (List.mem_of_getElem? (i := 2) rfl) rfl rfl (by decide) rfl rfl dX7_piles_46 ?_
  refine g_imul dX7_piles_49 ?_
  refine g_iconst dX7_piles_50 ?_
  refine g_iadd dX7_piles_51 ?_
  refine g_iload 4 dX7_piles_52 rfl ?_
  refine g_iast (ws1 := [(m0, oo 7 (fMo ra mm nf ti so ta go sl lo cn lx ly pm pi)), (ra 41, aI E 1200 (up (up (up (up zt (4 * pi) l) ((4 * pi) + 1) lw) ((4 * pi) + 2) w) ((4 * pi) + 3) h))]) 1 dX7_piles_54 rfl rfl (by decide) (by omega) (by omega) ?_
  refine g_aload_n 0 dX7_piles_55 rfl rfl ?_
  refine g_dup dX7_piles_56 rfl ?_
  refine g_get (C := RX7) (T := TX7) (N := 43) 0 40 (fun _ h => List.mem_cons_of_mem _ (List.mem_append_right _ h)) (List.mem_of_getElem? (i := 2) rfl) rfl rfl (by decide) rfl rfl dX7_piles_57 ?_
  refine g_iconst dX7_piles_60 ?_
  refine g_iadd dX7_piles_61 ?_
  refine g_put (C := RX7) (T := TX7) (N := 43) (ws1 := [(m0, oo 7 (fMo ra mm nf ti so ta go sl lo cn lx ly pm (pi + 1))), (ra 41, aI E 1200 (up (up (up (up zt (4 * pi) l) ((4 * pi) + 1) lw) ((4 * pi) + 2) w) ((4 * pi) + 3) h))]) 0 40 (fun _ h => List.mem_cons_of_mem _ (List.mem_append_right _ h)) tyX7 tyX7_ok nmX7 (List.mem_of_getElem? (i := 2) rfl) rfl rfl (by decide) rfl (tyX7_ok 40 (by decide)) rfl rfl (by first | decide | exact Nat.le_of_ble_eq_true rfl) dX7_piles_62 rfl rfl ?_
  exact g_vret hRet dX7_piles_65 rfl

set_option maxHeartbeats 4000000 in
set_option maxRecDepth 100000 in
theorem c_X7_cuts (E : Ev) (m0 : Nat) (ra : Nat → Nat) (mm : Int) (nf : Int) (ti : Int) (so : Int) (ta : Int) (go : Int) (sl : Int) (lo : Int) (cn : Int) (lx : Int) (ly : Int) (pm : Int) (pi : Int) (mo : Int → Int) (zt : Int → Int) (l : Int) (lw : Int) (w : Int) (h : Int) (al : Int) (Rs : List Qd) (hw : 1 ≤ w ∧ w ≤ 12) (hh : 1 ≤ h ∧ h ≤ 12) (hmo : ∀ k, 0 ≤ mo k ∧ mo k ≤ 144) (hr : rep zt pi Rs) (har : pi + w * h ≤ 144) (hal : al = tb mo w h) : MI yX7_cuts wsX7_cuts ({ frames := 1, cells := 0, slots := 0, locals := 24 } : Room) E [] 0 0 [.ref m0, .int (iI l), .int (iI lw), .int (iI w), .int (iI h), .int (iI al)] [(m0, oo 7 (fMo ra mm nf ti so ta go sl lo cn lx ly pm pi)), (ra 37, aI E 169 mo), (ra 41, aI E 1200 zt)] (fun r u => ∃ (x : Int), ∃ (pi' : Int), ∃ (zt' : Int → Int), ((x = 1 ∧ ∃ C, cutR (tb mo) l lw w h C ∧ rep zt' pi' (C ++ Rs)) ∨ (x = 0 ∧ nU (tb mo) w h ∧ nL (tb mo) w h ∧ zt' = zt ∧ pi' = pi)) ∧ r = iI x ∧ u = [(m0, oo 7 (fMo ra mm nf ti so ta go sl lo cn lx ly pm pi')), (ra 37, aI E 169 mo), (ra 41, aI E 1200 zt')]) := by
  refine MI.of (cc := cX7_cuts) (maxL := 7) (own := RX7) (by decide) rfl rfl rfl (Nat.le_of_ble_eq_true rfl) [(0, .ref m0), (1, .int (iI l)), (2, .int (iI lw)), (3, .int (iI w)), (4, .int (iI h)), (5, .int (iI al))] rfl ?_
  intro X hin2 hRet
  have hlen := rep_len hr
  have hmw := tb_b hmo w h
  refine g_iconst dX7_cuts_0 ?_
  refine g_istore (lv1 := [(6, .int (iI 1)), (0, .ref m0), (1, .int (iI l)), (2, .int (iI lw)), (3, .int (iI w)), (4, .int (iI h)), (5, .int (iI al))]) dX7_cuts_1 (by decide) rfl ?_
  refine g_lv (lv1 := [(0, .ref m0), (1, .int (iI l)), (2, .int (iI lw)), (3, .int (iI w)), (4, .int (iI h)), (5, .int (iI al)), (6, .int (iI 1))]) [1, 2, 3, 4, 5, 6, 0] rfl ?_
  have L3 : ∀ (nn : Nat) (k : Int) (hkk : 1 ≤ k ∧ k ≤ w) (hN : ∀ j, 1 ≤ j → j < k → cU (tb mo) w h j ≠ tb mo w h) (hm : w - k < (nn : Int)), G X ({ frames := 1, cells := 0, slots := 0, locals := 24 } : Room) cX7_cuts 7 RX7 wsX7_cuts E [] 0 0 [(m0, oo 7 (fMo ra mm nf ti so ta go sl lo cn lx ly pm pi)), (ra 37, aI E 169 mo), (ra 41, aI E 1200 zt)] [(0, .ref m0), (1, .int (iI l)), (2, .int (iI lw)), (3, .int (iI w)), (4, .int (iI h)), (5, .int (iI al)), (6, .int (iI k))] 3 [] := by
    intro nn
    induction nn with
    | zero => intro k hkk hN hm; exfalso; omega
    | succ nn ih3 =>
      intro k hkk hN hm
      refine g_iload 6 dX7_cuts_3 rfl ?_
      refine g_iload_n 3 dX7_cuts_5 rfl rfl ?_
      refine g_icmp_ge (tgt := 66) (by unfold R32; omega) (by unfold R32; omega) dX7_cuts_6 rfl (fun c_1 => ?_) (fun c_1 => ?_)
      · refine g_iconst dX7_cuts_66 ?_
        refine g_istore (lv1 := [(6, .int (iI 1)), (0, .ref m0), (1, .int (iI l)), (2, .int (iI lw)), (3, .int (iI w)), (4, .int (iI h)), (5, .int (iI al))]) dX7_cuts_67 (by decide) rfl ?_
        refine g_lv (lv1 := [(0, .ref m0), (1, .int (iI l)), (2, .int (iI lw)), (3, .int (iI w)), (4, .int (iI h)), (5, .int (iI al)), (6, .int (iI 1))]) [1, 2, 3, 4, 5, 6, 0] rfl ?_
        have L69 : ∀ (nn : Nat) (j9 : Int) (hkj9 : 1 ≤ j9 ∧ j9 ≤ h) (hNj : ∀ j, 1 ≤ j → j < j9 → cL (tb mo) w h j ≠ tb mo w h) (hm : h - j9 < (nn : Int)), G X ({ frames := 1, cells := 0, slots := 0, locals := 24 } : Room) cX7_cuts 7 RX7 wsX7_cuts E [] 0 0 [(m0, oo 7 (fMo ra mm nf ti so ta go sl lo cn lx ly pm pi)), (ra 37, aI E 169 mo), (ra 41, aI E 1200 zt)] [(0, .ref m0), (1, .int (iI l)), (2, .int (iI lw)), (3, .int (iI w)), (4, .int (iI h)), (5, .int (iI al)), (6, .int (iI j9))] 69 [] := by
          intro nn
          induction nn with
          | zero => intro j9 hkj9 hNj hm; exfalso; omega
          | succ nn ih69 =>
            intro j9 hkj9 hNj hm
            refine g_iload 6 dX7_cuts_69 rfl ?_
            refine g_iload 4 dX7_cuts_71 rfl ?_
            refine g_icmp_ge (tgt := 131) (by unfold R32; omega) (by unfold R32; omega) dX7_cuts_73 rfl (fun c_2 => ?_) (fun c_2 => ?_)
            · refine g_iconst dX7_cuts_131 ?_
              exact g_iret hRet dX7_cuts_132 rfl ⟨0, pi, zt, (by exact Or.inr ⟨rfl, fun j j1 j2 => hN j j1 (by omega), fun j j1 j2 => hNj j j1 (by omega), rfl, rfl⟩), rfl, rfl⟩
            · refine g_aload_n 0 dX7_cuts_76 rfl rfl ?_
              refine g_iload_n 3 dX7_cuts_77 rfl rfl ?_
              refine g_iload 6 dX7_cuts_78 rfl ?_
              refine g_callV_i (n := 2) (As := [.int (iI w), .int (iI j9)]) (wr := [(ra 41, aI E 1200 zt)]) (C := RX7) [] (c_X7_mostOf E m0 ra mm nf ti so ta go sl lo cn lx ly pm pi mo w j9 (by omega) (by omega)) [0, 1] [2] 0 rfl rfl gX7_cuts_X7_mostOf rfl ⟨rfl, by decide +kernel⟩ ⟨by decide, by decide⟩ rfl rfl rfl rfl rfl (by decide) rfl (by decide) (by decide) (fun _ h => absurd h List.not_mem_nil) dX7_cuts_80 rfl (Nat.le_of_ble_eq_true rfl) ⟨by decide, by decide⟩ (fun r u p_3 => ?_)
              obtain ⟨rfl, rfl⟩ := p_3
              refine g_perm (ws1 := [(m0, oo 7 (fMo ra mm nf ti so ta go sl lo cn lx ly pm pi)), (ra 37, aI E 169 mo), (ra 41, aI E 1200 zt)]) [1, 2, 0] rfl (by decide) rfl ?_
              have ht1 := tb_b hmo w j9
              refine g_aload_n 0 dX7_cuts_83 rfl rfl ?_
              refine g_iload_n 3 dX7_cuts_84 rfl rfl ?_
              refine g_iload 4 dX7_cuts_85 rfl ?_
              refine g_iload 6 dX7_cuts_87 rfl ?_
              refine g_isub dX7_cuts_89 ?_
              refine g_callV_i (n := 2) (As := [.int (iI w), .int (iI (h - j9))]) (wr := [(ra 41, aI E 1200 zt)]) (C := RX7) [.int (iI (tb mo w j9))] (c_X7_mostOf E m0 ra mm nf ti so ta go sl lo cn lx ly pm pi mo w (h - j9) (by omega) (by omega)) [0, 1] [2] 0 rfl rfl gX7_cuts_X7_mostOf rfl ⟨rfl, by decide +kernel⟩ ⟨by decide, by decide⟩ rfl rfl rfl rfl rfl (by decide) rfl (by decide) (by decide) (fun _ h => absurd h List.not_mem_nil) dX7_cuts_90 rfl (Nat.le_of_ble_eq_true rfl) ⟨by decide, by decide⟩ (fun r u p_4 => ?_)
              obtain ⟨rfl, rfl⟩ := p_4
              refine g_perm (ws1 := [(m0, oo 7 (fMo ra mm nf ti so ta go sl lo cn lx ly pm pi)), (ra 37, aI E 169 mo), (ra 41, aI E 1200 zt)]) [1, 2, 0] rfl (by decide) rfl ?_
              have ht2 := tb_b hmo w (h - j9)
              refine g_iadd dX7_cuts_93 ?_
              refine g_iload 5 dX7_cuts_94 rfl ?_
              refine g_icmp_ne (tgt := 125) (by unfold R32; omega) (by unfold R32; omega) dX7_cuts_96 rfl (fun hne => ?_) (fun hne => ?_)
              · have hw2 := mul_ge (w := w) (h := h) (p := 1) (q := 2) (by omega) (by omega) (by omega) (by omega)
                refine g_aload_n 0 dX7_cuts_99 rfl rfl ?_
                refine g_iload_n 1 dX7_cuts_100 rfl rfl ?_
                refine g_iload_n 2 dX7_cuts_101 rfl rfl ?_
                refine g_iload 6 dX7_cuts_102 rfl ?_
                refine g_iadd dX7_cuts_104 ?_
                refine g_iload_n 3 dX7_cuts_105 rfl rfl ?_
                refine g_iload 4 dX7_cuts_106 rfl ?_
                refine g_iload 6 dX7_cuts_108 rfl ?_
                refine g_isub dX7_cuts_110 ?_
                refine g_callV_v (n := 4) (As := [.int (iI l), .int (iI (lw + j9)), .int (iI w), .int (iI (h - j9))]) (wr := [(ra 37, aI E 169 mo)]) (C := RX7) [] (c_X7_piles E m0 ra mm nf ti so ta go sl lo cn lx ly pm pi zt l (lw + j9) w (h - j9) (by omega)) [0, 2] [1] 0 rfl rfl gX7_cuts_X7_piles rfl ⟨rfl, by decide +kernel⟩ ⟨by decide, by decide⟩ rfl rfl rfl rfl rfl (by decide) rfl (by decide) (by decide) (fun _ h => absurd h List.not_mem_nil) dX7_cuts_111 rfl (Nat.le_of_ble_eq_true rfl) ⟨by decide, by decide⟩ (fun u p_5 => ?_)
                subst p_5
                refine g_perm (ws1 := [(m0, oo 7 (fMo ra mm nf ti so ta go sl lo cn lx ly pm (pi + 1))), (ra 37, aI E 169 mo), (ra 41, aI E 1200 (up (up (up (up zt (4 * pi) l) (4 * pi + 1) (lw + j9)) (4 * pi + 2) w) (4 * pi + 3) (h - j9)))]) [1, 0, 2] rfl (by decide) rfl ?_
                refine g_aload_n 0 dX7_cuts_114 rfl rfl ?_
                refine g_iload_n 1 dX7_cuts_115 rfl rfl ?_
                refine g_iload_n 2 dX7_cuts_116 rfl rfl ?_
                refine g_iload_n 3 dX7_cuts_117 rfl rfl ?_
                refine g_iload 6 dX7_cuts_118 rfl ?_
                refine g_callV_v (n := 4) (As := [.int (iI l), .int (iI lw), .int (iI w), .int (iI j9)]) (wr := [(ra 37, aI E 169 mo)]) (C := RX7) [] (c_X7_piles E m0 ra mm nf ti so ta go sl lo cn lx ly pm (pi + 1) (up (up (up (up zt (4 * pi) l) (4 * pi + 1) (lw + j9)) (4 * pi + 2) w) (4 * pi + 3) (h - j9)) l lw w j9 (by omega)) [0, 2] [1] 0 rfl rfl gX7_cuts_X7_piles rfl ⟨rfl, by decide +kernel⟩ ⟨by decide, by decide⟩ rfl rfl rfl rfl rfl (by decide) rfl (by decide) (by decide) (fun _ h => absurd h List.not_mem_nil) dX7_cuts_120 rfl (Nat.le_of_ble_eq_true rfl) ⟨by decide, by decide⟩ (fun u p_6 => ?_)
                subst p_6
                refine g_perm (ws1 := [(m0, oo 7 (fMo ra mm nf ti so ta go sl lo cn lx ly pm ((pi + 1) + 1))), (ra 37, aI E 169 mo), (ra 41, aI E 1200 (up (up (up (up (up (up (up (up zt (4 * pi) l) (4 * pi + 1) (lw + j9)) (4 * pi + 2) w) (4 * pi + 3) (h - j9)) (4 * (pi + 1)) l) (4 * (pi + 1) + 1) lw) (4 * (pi + 1) + 2) w) (4 * (pi + 1) + 3) j9))]) [1, 0, 2] rfl (by decide) rfl ?_
                refine g_iconst dX7_cuts_123 ?_
                exact g_iret hRet dX7_cuts_124 rfl ⟨1, ((pi + 1) + 1), (up (up (up (up (up (up (up (up zt (4 * pi) l) (4 * pi + 1) (lw + j9)) (4 * pi + 2) w) (4 * pi + 3) (h - j9)) (4 * (pi + 1)) l) (4 * (pi + 1) + 1) lw) (4 * (pi + 1) + 2) w) (4 * (pi + 1) + 3) j9), (by exact Or.inl ⟨rfl, _, Or.inr (Or.inl ⟨fun j j1 j2 => hN j j1 (by omega), j9, by omega, by omega, hne.trans hal, hNj, rfl⟩), rep_push (rep_push hr _ _ _ _) _ _ _ _⟩), rfl, rfl⟩
              · refine g_iinc (lv1 := [(6, .int (iI (j9 + 1))), (0, .ref m0), (1, .int (iI l)), (2, .int (iI lw)), (3, .int (iI w)), (4, .int (iI h)), (5, .int (iI al))]) 6 dX7_cuts_125 rfl (by decide) rfl ?_
                refine g_goto (tgt := 69) dX7_cuts_128 rfl ?_
                refine g_lv (lv1 := [(0, .ref m0), (1, .int (iI l)), (2, .int (iI lw)), (3, .int (iI w)), (4, .int (iI h)), (5, .int (iI al)), (6, .int (iI (j9 + 1)))]) [1, 2, 3, 4, 5, 6, 0] rfl ?_
                exact ih69 (j9 + 1) (by omega) (by intro j j1 j2; by_cases e : j = j9; rw [e, ← hal]; exact hne; exact hNj j j1 (by omega)) (by omega)
        exact L69 _ 1 (by omega) (by intro j j1 j2; omega) (lt_nn _)
      · refine g_aload_n 0 dX7_cuts_9 rfl rfl ?_
        refine g_iload 6 dX7_cuts_10 rfl ?_
        refine g_iload 4 dX7_cuts_12 rfl ?_
        refine g_callV_i (n := 2) (As := [.int (iI k), .int (iI h)]) (wr := [(ra 41, aI E 1200 zt)]) (C := RX7) [] (c_X7_mostOf E m0 ra mm nf ti so ta go sl lo cn lx ly pm pi mo k h (by omega) (by omega)) [0, 1] [2] 0 rfl rfl gX7_cuts_X7_mostOf rfl ⟨rfl, by decide +kernel⟩ ⟨by decide, by decide⟩ rfl rfl rfl rfl rfl (by decide) rfl (by decide) (by decide) (fun _ h => absurd h List.not_mem_nil) dX7_cuts_14 rfl (Nat.le_of_ble_eq_true rfl) ⟨by decide, by decide⟩ (fun r u p_7 => ?_)
        obtain ⟨rfl, rfl⟩ := p_7
        refine g_perm (ws1 := [(m0, oo 7 (fMo ra mm nf ti so ta go sl lo cn lx ly pm pi)), (ra 37, aI E 169 mo), (ra 41, aI E 1200 zt)]) [1, 2, 0] rfl (by decide) rfl ?_
        have ht1 := tb_b hmo k h
        refine g_aload_n 0 dX7_cuts_17 rfl rfl ?_
        refine g_iload_n 3 dX7_cuts_18 rfl rfl ?_
        refine g_iload 6 dX7_cuts_19 rfl ?_
        refine g_isub dX7_cuts_21 ?_
        refine g_iload 4 dX7_cuts_22 rfl ?_
        refine g_callV_i (n := 2) (As := [.int (iI (w - k)), .int (iI h)]) (wr := [(ra 41, aI E 1200 zt)]) (C := RX7) [.int (iI (tb mo k h))] (c_X7_mostOf E m0 ra mm nf ti so ta go sl lo cn lx ly pm pi mo (w - k) h (by omega) (by omega)) [0, 1] [2] 0 rfl rfl gX7_cuts_X7_mostOf rfl ⟨rfl, by decide +kernel⟩ ⟨by decide, by decide⟩ rfl rfl rfl rfl rfl (by decide) rfl (by decide) (by decide) (fun _ h => absurd h List.not_mem_nil) dX7_cuts_24 rfl (Nat.le_of_ble_eq_true rfl) ⟨by decide, by decide⟩ (fun r u p_8 => ?_)
        obtain ⟨rfl, rfl⟩ := p_8
        refine g_perm (ws1 := [(m0, oo 7 (fMo ra mm nf ti so ta go sl lo cn lx ly pm pi)), (ra 37, aI E 169 mo), (ra 41, aI E 1200 zt)]) [1, 2, 0] rfl (by decide) rfl ?_
        have ht2 := tb_b hmo (w - k) h
        refine g_iadd dX7_cuts_27 ?_
        refine g_iload 5 dX7_cuts_28 rfl ?_
        refine g_icmp_ne (tgt := 60) (by unfold R32; omega) (by unfold R32; omega) dX7_cuts_30 rfl (fun hne => ?_) (fun hne => ?_)
        · have hw2 := mul_ge (w := w) (h := h) (p := 2) (q := 1) (by omega) (by omega) (by omega) (by omega)
          refine g_aload_n 0 dX7_cuts_33 rfl rfl ?_
          refine g_iload_n 1 dX7_cuts_34 rfl rfl ?_
          refine g_iload 6 dX7_cuts_35 rfl ?_
          refine g_iadd dX7_cuts_37 ?_
          refine g_iload_n 2 dX7_cuts_38 rfl rfl ?_
          refine g_iload_n 3 dX7_cuts_39 rfl rfl ?_
          refine g_iload 6 dX7_cuts_40 rfl ?_
          refine g_isub dX7_cuts_42 ?_
          refine g_iload 4 dX7_cuts_43 rfl ?_
          refine g_callV_v (n := 4) (As := [.int (iI (l + k)), .int (iI lw), .int (iI (w - k)), .int (iI h)]) (wr := [(ra 37, aI E 169 mo)]) (C := RX7) [] (c_X7_piles E m0 ra mm nf ti so ta go sl lo cn lx ly pm pi zt (l + k) lw (w - k) h (by omega)) [0, 2] [1] 0 rfl rfl gX7_cuts_X7_piles rfl ⟨rfl, by decide +kernel⟩ ⟨by decide, by decide⟩ rfl rfl rfl rfl rfl (by decide) rfl (by decide) (by decide) (fun _ h => absurd h List.not_mem_nil) dX7_cuts_45 rfl (Nat.le_of_ble_eq_true rfl) ⟨by decide, by decide⟩ (fun u p_9 => ?_)
          subst p_9
          refine g_perm (ws1 := [(m0, oo 7 (fMo ra mm nf ti so ta go sl lo cn lx ly pm (pi + 1))), (ra 37, aI E 169 mo), (ra 41, aI E 1200 (up (up (up (up zt (4 * pi) (l + k)) (4 * pi + 1) lw) (4 * pi + 2) (w - k)) (4 * pi + 3) h))]) [1, 0, 2] rfl (by decide) rfl ?_
          refine g_aload_n 0 dX7_cuts_48 rfl rfl ?_
          refine g_iload_n 1 dX7_cuts_49 rfl rfl ?_
          refine g_iload_n 2 dX7_cuts_50 rfl rfl ?_
          refine g_iload 6 dX7_cuts_51 rfl ?_
          refine g_iload 4 dX7_cuts_53 rfl ?_
          refine g_callV_v (n := 4) (As := [.int (iI l), .int (iI lw), .int (iI k), .int (iI h)]) (wr := [(ra 37, aI E 169 mo)]) (C := RX7) [] (c_X7_piles E m0 ra mm nf ti so ta go sl lo cn lx ly pm (pi + 1) (up (up (up (up zt (4 * pi) (l + k)) (4 * pi + 1) lw) (4 * pi + 2) (w - k)) (4 * pi + 3) h) l lw k h (by omega)) [0, 2] [1] 0 rfl rfl gX7_cuts_X7_piles rfl ⟨rfl, by decide +kernel⟩ ⟨by decide, by decide⟩ rfl rfl rfl rfl rfl (by decide) rfl (by decide) (by decide) (fun _ h => absurd h List.not_mem_nil) dX7_cuts_55 rfl (Nat.le_of_ble_eq_true rfl) ⟨by decide, by decide⟩ (fun u p_10 => ?_)
          subst p_10
          refine g_perm (ws1 := [(m0, oo 7 (fMo ra mm nf ti so ta go sl lo cn lx ly pm ((pi + 1) + 1))), (ra 37, aI E 169 mo), (ra 41, aI E 1200 (up (up (up (up (up (up (up (up zt (4 * pi) (l + k)) (4 * pi + 1) lw) (4 * pi + 2) (w - k)) (4 * pi + 3) h) (4 * (pi + 1)) l) (4 * (pi + 1) + 1) lw) (4 * (pi + 1) + 2) k) (4 * (pi + 1) + 3) h))]) [1, 0, 2] rfl (by decide) rfl ?_
          refine g_iconst dX7_cuts_58 ?_
          exact g_iret hRet dX7_cuts_59 rfl ⟨1, ((pi + 1) + 1), (up (up (up (up (up (up (up (up zt (4 * pi) (l + k)) (4 * pi + 1) lw) (4 * pi + 2) (w - k)) (4 * pi + 3) h) (4 * (pi + 1)) l) (4 * (pi + 1) + 1) lw) (4 * (pi + 1) + 2) k) (4 * (pi + 1) + 3) h), (by exact Or.inl ⟨rfl, _, Or.inl ⟨k, by omega, by omega, hne.trans hal, hN, rfl⟩, rep_push (rep_push hr _ _ _ _) _ _ _ _⟩), rfl, rfl⟩
        · refine g_iinc (lv1 := [(6, .int (iI (k + 1))), (0, .ref m0), (1, .int (iI l)), (2, .int (iI lw)), (3, .int (iI w)), (4, .int (iI h)), (5, .int (iI al))]) 6 dX7_cuts_60 rfl (by decide) rfl ?_
          refine g_goto (tgt := 3) dX7_cuts_63 rfl ?_
          refine g_lv (lv1 := [(0, .ref m0), (1, .int (iI l)), (2, .int (iI lw)), (3, .int (iI w)), (4, .int (iI h)), (5, .int (iI al)), (6, .int (iI (k + 1)))]) [1, 2, 3, 4, 5, 6, 0] rfl ?_
          exact ih3 (k + 1) (by omega) (by intro j j1 j2; by_cases e : j = k; rw [e, ← hal]; exact hne; exact hN j j1 (by omega)) (by omega)
  exact L3 _ 1 (by omega) (by intro j j1 j2; omega) (lt_nn _)

set_option maxHeartbeats 4000000 in
set_option maxRecDepth 100000 in
theorem c_X7_wheels (E : Ev) (m0 : Nat) (ra : Nat → Nat) (mm : Int) (nf : Int) (ti : Int) (so : Int) (ta : Int) (go : Int) (sl : Int) (lo : Int) (cn : Int) (lx : Int) (ly : Int) (pm : Int) (pi : Int) (mo : Int → Int) (zt : Int → Int) (l : Int) (lw : Int) (w : Int) (h : Int) (al : Int) (qa : Int) (qb : Int) (Rs : List Qd) (hw : 1 ≤ w ∧ w ≤ 12) (hh : 1 ≤ h ∧ h ≤ 12) (hq : (1 ≤ qa ∧ qa ≤ 12) ∧ 1 ≤ qb ∧ qb ≤ 12) (hmo : ∀ k, 0 ≤ mo k ∧ mo k ≤ 144) (hr : rep zt pi Rs) (har : pi + w * h ≤ 144) (hal : al = tb mo w h) (hU : nU (tb mo) w h) (hLv : nL (tb mo) w h) (hG : gB qa qb (tb mo) w h) (hB : isB qa qb (tb mo) w h (tb mo w h)) (hm1 : 1 < al) : MV yX7_wheels wsX7_wheels ({ frames := 2, cells := 0, slots := 0, locals := 48 } : Room) E [] 0 0 [.ref m0, .int (iI l), .int (iI lw), .int (iI w), .int (iI h), .int (iI al)] [(m0, oo 7 (fMo ra mm nf ti so ta go sl lo cn lx ly pm pi)), (ra 37, aI E 169 mo), (ra 41, aI E 1200 zt)] (fun u => ∃ (pi' : Int), ∃ (zt' : Int → Int), (∃ C, cutR (tb mo) l lw w h C ∧ rep zt' pi' (C ++ Rs)) ∧ u = [(m0, oo 7 (fMo ra mm nf ti so ta go sl lo cn lx ly pm pi')), (ra 37, aI E 169 mo), (ra 41, aI E 1200 zt')]) := by
  refine MV.of (cc := cX7_wheels) (maxL := 10) (own := RX7) (by decide) rfl rfl rfl (Nat.le_of_ble_eq_true rfl) [(0, .ref m0), (1, .int (iI l)), (2, .int (iI lw)), (3, .int (iI w)), (4, .int (iI h)), (5, .int (iI al))] rfl ?_
  intro X hin2 hRet
  have hlen := rep_len hr
  have hmw := tb_b hmo w h
  refine g_iconst dX7_wheels_0 ?_
  refine g_istore (lv1 := [(6, .int (iI 1)), (0, .ref m0), (1, .int (iI l)), (2, .int (iI lw)), (3, .int (iI w)), (4, .int (iI h)), (5, .int (iI al))]) dX7_wheels_1 (by decide) rfl ?_
  refine g_lv (lv1 := [(0, .ref m0), (1, .int (iI l)), (2, .int (iI lw)), (3, .int (iI w)), (4, .int (iI h)), (5, .int (iI al)), (6, .int (iI 1))]) [1, 2, 3, 4, 5, 6, 0] rfl ?_
  have L3 : ∀ (nn : Nat) (x1 : Int) (hx1 : 1 ≤ x1 ∧ x1 ≤ 12) (hI1 : aK 1 w h (4096 * x1) (fun a b c d => cP (tb mo) w h a b c d ≠ tb mo w h)) (hm : 12 - x1 < (nn : Int)), G X ({ frames := 2, cells := 0, slots := 0, locals := 48 } : Room) cX7_wheels 10 RX7 wsX7_wheels E [] 0 0 [(m0, oo 7 (fMo ra mm nf ti so ta go sl lo cn lx ly pm pi)), (ra 37, aI E 169 mo), (ra 41, aI E 1200 zt)] [(0, .ref m0), (1, .int (iI l)), (2, .int (iI lw)), (3, .int (iI w)), (4, .int (iI h)), (5, .int (iI al)), (6, .int (iI x1))] 3 [] := by
    intro nn
    induction nn with
    | zero => intro x1 hx1 hI1 hm; exfalso; omega
    | succ nn ih3 =>
      intro x1 hx1 hI1 hm
      refine g_iload 6 dX7_wheels_3 rfl ?_
      refine g_iload_n 3 dX7_wheels_5 rfl rfl ?_
      refine g_icmp_ge (tgt := 173) (by unfold R32; omega) (by unfold R32; omega) dX7_wheels_6 rfl (fun c_1 => ?_) (fun c_1 => ?_)
      · exact g_vret hRet dX7_wheels_173 ⟨pi, zt, (by exfalso; exact cut_n (n := 1) ⟨by omega, by omega⟩ hG hB hU hLv (by omega) (fun a b c d hv => aK_e1 (by omega) (by omega) (by omega) (by omega) hI1 hv)), rfl⟩
      · refine g_iload 6 dX7_wheels_9 rfl ?_
        refine g_iconst dX7_wheels_11 ?_
        refine g_iadd dX7_wheels_12 ?_
        refine g_istore (lv1 := [(7, .int (iI (x1 + 1))), (0, .ref m0), (1, .int (iI l)), (2, .int (iI lw)), (3, .int (iI w)), (4, .int (iI h)), (5, .int (iI al)), (6, .int (iI x1))]) dX7_wheels_13 (by decide) rfl ?_
        refine g_lv (lv1 := [(0, .ref m0), (1, .int (iI l)), (2, .int (iI lw)), (3, .int (iI w)), (4, .int (iI h)), (5, .int (iI al)), (6, .int (iI x1)), (7, .int (iI (x1 + 1)))]) [1, 2, 3, 4, 5, 6, 7, 0] rfl ?_
        have L15 : ∀ (nn : Nat) (x2 : Int) (hx2 : x1 < x2 ∧ x2 ≤ 12) (hI2 : aK 1 w h (4096 * x1 + 256 * x2) (fun a b c d => cP (tb mo) w h a b c d ≠ tb mo w h)) (hm : 12 - x2 < (nn : Int)), G X ({ frames := 2, cells := 0, slots := 0, locals := 48 } : Room) cX7_wheels 10 RX7 wsX7_wheels E [] 0 0 [(m0, oo 7 (fMo ra mm nf ti so ta go sl lo cn lx ly pm pi)), (ra 37, aI E 169 mo), (ra 41, aI E 1200 zt)] [(0, .ref m0), (1, .int (iI l)), (2, .int (iI lw)), (3, .int (iI w)), (4, .int (iI h)), (5, .int (iI al)), (6, .int (iI x1)), (7, .int (iI x2))] 15 [] := by
          intro nn
          induction nn with
          | zero => intro x2 hx2 hI2 hm; exfalso; omega
          | succ nn ih15 =>
            intro x2 hx2 hI2 hm
            refine g_iload 7 dX7_wheels_15 rfl ?_
            refine g_iload_n 3 dX7_wheels_17 rfl rfl ?_
            refine g_icmp_ge (tgt := 167) (by unfold R32; omega) (by unfold R32; omega) dX7_wheels_18 rfl (fun c_2 => ?_) (fun c_2 => ?_)
            · refine g_iinc (lv1 := [(6, .int (iI (x1 + 1))), (0, .ref m0), (1, .int (iI l)), (2, .int (iI lw)), (3, .int (iI w)), (4, .int (iI h)), (5, .int (iI al)), (7, .int (iI x2))]) 6 dX7_wheels_167 rfl (by decide) rfl ?_
              refine g_goto (tgt := 3) dX7_wheels_170 rfl ?_
              refine g_lv (lv1 := [(0, .ref m0), (1, .int (iI l)), (2, .int (iI lw)), (3, .int (iI w)), (4, .int (iI h)), (5, .int (iI al)), (6, .int (iI (x1 + 1)))]) [1, 2, 3, 4, 5, 6, 0] rfl ?_
              exact ih3 (x1 + 1) (by omega) (by exact aK_e2 (by omega) (by omega) (by omega) (by omega) hI2) (by omega)
            · refine g_iconst dX7_wheels_21 ?_
              refine g_istore (lv1 := [(8, .int (iI 1)), (0, .ref m0), (1, .int (iI l)), (2, .int (iI lw)), (3, .int (iI w)), (4, .int (iI h)), (5, .int (iI al)), (6, .int (iI x1)), (7, .int (iI x2))]) dX7_wheels_22 (by decide) rfl ?_
              refine g_lv (lv1 := [(0, .ref m0), (1, .int (iI l)), (2, .int (iI lw)), (3, .int (iI w)), (4, .int (iI h)), (5, .int (iI al)), (6, .int (iI x1)), (7, .int (iI x2)), (8, .int (iI 1))]) [1, 2, 3, 4, 5, 6, 7, 8, 0] rfl ?_
              have L24 : ∀ (nn : Nat) (y1 : Int) (hx3 : 1 ≤ y1 ∧ y1 ≤ 12) (hI3 : aK 1 w h (4096 * x1 + 256 * x2 + 16 * y1) (fun a b c d => cP (tb mo) w h a b c d ≠ tb mo w h)) (hm : 12 - y1 < (nn : Int)), G X ({ frames := 2, cells := 0, slots := 0, locals := 48 } : Room) cX7_wheels 10 RX7 wsX7_wheels E [] 0 0 [(m0, oo 7 (fMo ra mm nf ti so ta go sl lo cn lx ly pm pi)), (ra 37, aI E 169 mo), (ra 41, aI E 1200 zt)] [(0, .ref m0), (1, .int (iI l)), (2, .int (iI lw)), (3, .int (iI w)), (4, .int (iI h)), (5, .int (iI al)), (6, .int (iI x1)), (7, .int (iI x2)), (8, .int (iI y1))] 24 [] := by
                intro nn
                induction nn with
                | zero => intro y1 hx3 hI3 hm; exfalso; omega
                | succ nn ih24 =>
                  intro y1 hx3 hI3 hm
                  refine g_iload 8 dX7_wheels_24 rfl ?_
                  refine g_iload 4 dX7_wheels_26 rfl ?_
                  refine g_icmp_ge (tgt := 161) (by unfold R32; omega) (by unfold R32; omega) dX7_wheels_28 rfl (fun c_3 => ?_) (fun c_3 => ?_)
                  · refine g_iinc (lv1 := [(7, .int (iI (x2 + 1))), (0, .ref m0), (1, .int (iI l)), (2, .int (iI lw)), (3, .int (iI w)), (4, .int (iI h)), (5, .int (iI al)), (6, .int (iI x1)), (8, .int (iI y1))]) 7 dX7_wheels_161 rfl (by decide) rfl ?_
                    refine g_goto (tgt := 15) dX7_wheels_164 rfl ?_
                    refine g_lv (lv1 := [(0, .ref m0), (1, .int (iI l)), (2, .int (iI lw)), (3, .int (iI w)), (4, .int (iI h)), (5, .int (iI al)), (6, .int (iI x1)), (7, .int (iI (x2 + 1)))]) [1, 2, 3, 4, 5, 6, 7, 0] rfl ?_
                    exact ih15 (x2 + 1) (by omega) (by exact aK_e3 (by omega) (by omega) (by omega) (by omega) hI3) (by omega)
                  · refine g_iload 8 dX7_wheels_31 rfl ?_
                    refine g_iconst dX7_wheels_33 ?_
                    refine g_iadd dX7_wheels_34 ?_
                    refine g_istore (lv1 := [(9, .int (iI (y1 + 1))), (0, .ref m0), (1, .int (iI l)), (2, .int (iI lw)), (3, .int (iI w)), (4, .int (iI h)), (5, .int (iI al)), (6, .int (iI x1)), (7, .int (iI x2)), (8, .int (iI y1))]) dX7_wheels_35 (by decide) rfl ?_
                    refine g_lv (lv1 := [(0, .ref m0), (1, .int (iI l)), (2, .int (iI lw)), (3, .int (iI w)), (4, .int (iI h)), (5, .int (iI al)), (6, .int (iI x1)), (7, .int (iI x2)), (8, .int (iI y1)), (9, .int (iI (y1 + 1)))]) [1, 2, 3, 4, 5, 6, 7, 8, 9, 0] rfl ?_
                    have L37 : ∀ (nn : Nat) (y2 : Int) (hx4 : y1 < y2 ∧ y2 ≤ 12) (hI4 : aK 1 w h (4096 * x1 + 256 * x2 + 16 * y1 + y2) (fun a b c d => cP (tb mo) w h a b c d ≠ tb mo w h)) (hm : 12 - y2 < (nn : Int)), G X ({ frames := 2, cells := 0, slots := 0, locals := 48 } : Room) cX7_wheels 10 RX7 wsX7_wheels E [] 0 0 [(m0, oo 7 (fMo ra mm nf ti so ta go sl lo cn lx ly pm pi)), (ra 37, aI E 169 mo), (ra 41, aI E 1200 zt)] [(0, .ref m0), (1, .int (iI l)), (2, .int (iI lw)), (3, .int (iI w)), (4, .int (iI h)), (5, .int (iI al)), (6, .int (iI x1)), (7, .int (iI x2)), (8, .int (iI y1)), (9, .int (iI y2))] 37 [] := by
                      intro nn
                      induction nn with
                      | zero => intro y2 hx4 hI4 hm; exfalso; omega
                      | succ nn ih37 =>
                        intro y2 hx4 hI4 hm
                        refine g_iload 9 dX7_wheels_37 rfl ?_
                        refine g_iload 4 dX7_wheels_39 rfl ?_
                        refine g_icmp_ge (tgt := 155) (by unfold R32; omega) (by unfold R32; omega) dX7_wheels_41 rfl (fun c_4 => ?_) (fun c_4 => ?_)
                        · refine g_iinc (lv1 := [(8, .int (iI (y1 + 1))), (0, .ref m0), (1, .int (iI l)), (2, .int (iI lw)), (3, .int (iI w)), (4, .int (iI h)), (5, .int (iI al)), (6, .int (iI x1)), (7, .int (iI x2)), (9, .int (iI y2))]) 8 dX7_wheels_155 rfl (by decide) rfl ?_
                          refine g_goto (tgt := 24) dX7_wheels_158 rfl ?_
                          refine g_lv (lv1 := [(0, .ref m0), (1, .int (iI l)), (2, .int (iI lw)), (3, .int (iI w)), (4, .int (iI h)), (5, .int (iI al)), (6, .int (iI x1)), (7, .int (iI x2)), (8, .int (iI (y1 + 1)))]) [1, 2, 3, 4, 5, 6, 7, 8, 0] rfl ?_
                          exact ih24 (y1 + 1) (by omega) (by exact aK_e4 (by omega) (by omega) (by omega) (by omega) hI4) (by omega)
                        · refine g_aload_n 0 dX7_wheels_44 rfl rfl ?_
                          refine g_iload_n 3 dX7_wheels_45 rfl rfl ?_
                          refine g_iload 4 dX7_wheels_46 rfl ?_
                          refine g_iload 6 dX7_wheels_48 rfl ?_
                          refine g_iload 7 dX7_wheels_50 rfl ?_
                          refine g_iload 8 dX7_wheels_52 rfl ?_
                          refine g_iload 9 dX7_wheels_54 rfl ?_
                          refine g_callV_i (n := 6) (As := [.int (iI w), .int (iI h), .int (iI x1), .int (iI x2), .int (iI y1), .int (iI y2)]) (wr := [(ra 41, aI E 1200 zt)]) (C := RX7) [] (c_X7_wheel E m0 ra mm nf ti so ta go sl lo cn lx ly pm pi mo w h x1 x2 y1 y2 (by omega) (by omega) (by unfold vN; omega)) [0, 1] [2] 0 rfl rfl gX7_wheels_X7_wheel rfl ⟨rfl, by decide +kernel⟩ ⟨by decide, by decide⟩ rfl rfl rfl rfl rfl (by decide) rfl (by decide) (by decide) (fun _ h => absurd h List.not_mem_nil) dX7_wheels_56 rfl (Nat.le_of_ble_eq_true rfl) ⟨by decide, by decide⟩ (fun r u p_5 => ?_)
                          obtain ⟨rfl, rfl⟩ := p_5
                          refine g_perm (ws1 := [(m0, oo 7 (fMo ra mm nf ti so ta go sl lo cn lx ly pm pi)), (ra 37, aI E 169 mo), (ra 41, aI E 1200 zt)]) [1, 2, 0] rfl (by decide) rfl ?_
                          have hcp := cP_b hmo w h x1 x2 y1 y2
                          refine g_iload 5 dX7_wheels_59 rfl ?_
                          refine g_icmp_ne (tgt := 149) (by unfold R32; omega) (by unfold R32; omega) dX7_wheels_61 rfl (fun hne => ?_) (fun hne => ?_)
                          · have hw2 := mul_ge (w := w) (h := h) (p := 3) (q := 3) (by omega) (by omega) (by omega) (by omega)
                            refine g_aload_n 0 dX7_wheels_64 rfl rfl ?_
                            refine g_iload_n 1 dX7_wheels_65 rfl rfl ?_
                            refine g_iload 6 dX7_wheels_66 rfl ?_
                            refine g_iadd dX7_wheels_68 ?_
                            refine g_iload_n 2 dX7_wheels_69 rfl rfl ?_
                            refine g_iload 8 dX7_wheels_70 rfl ?_
                            refine g_iadd dX7_wheels_72 ?_
                            refine g_iload 7 dX7_wheels_73 rfl ?_
                            refine g_iload 6 dX7_wheels_75 rfl ?_
                            refine g_isub dX7_wheels_77 ?_
                            refine g_iload 9 dX7_wheels_78 rfl ?_
                            refine g_iload 8 dX7_wheels_80 rfl ?_
                            refine g_isub dX7_wheels_82 ?_
                            refine g_callV_v (n := 4) (As := [.int (iI (l + x1)), .int (iI (lw + y1)), .int (iI (x2 - x1)), .int (iI (y2 - y1))]) (wr := [(ra 37, aI E 169 mo)]) (C := RX7) [] (c_X7_piles E m0 ra mm nf ti so ta go sl lo cn lx ly pm pi zt (l + x1) (lw + y1) (x2 - x1) (y2 - y1) (by omega)) [0, 2] [1] 0 rfl rfl gX7_wheels_X7_piles rfl ⟨rfl, by decide +kernel⟩ ⟨by decide, by decide⟩ rfl rfl rfl rfl rfl (by decide) rfl (by decide) (by decide) (fun _ h => absurd h List.not_mem_nil) dX7_wheels_83 rfl (Nat.le_of_ble_eq_true rfl) ⟨by decide, by decide⟩ (fun u p_6 => ?_)
                            subst p_6
                            refine g_perm (ws1 := [(m0, oo 7 (fMo ra mm nf ti so ta go sl lo cn lx ly pm (pi + 1))), (ra 37, aI E 169 mo), (ra 41, aI E 1200 (up (up (up (up zt (4 * pi) (l + x1)) (4 * pi + 1) (lw + y1)) (4 * pi + 2) (x2 - x1)) (4 * pi + 3) (y2 - y1)))]) [1, 0, 2] rfl (by decide) rfl ?_
                            refine g_aload_n 0 dX7_wheels_86 rfl rfl ?_
                            refine g_iload_n 1 dX7_wheels_87 rfl rfl ?_
                            refine g_iload_n 2 dX7_wheels_88 rfl rfl ?_
                            refine g_iload 9 dX7_wheels_89 rfl ?_
                            refine g_iadd dX7_wheels_91 ?_
                            refine g_iload 7 dX7_wheels_92 rfl ?_
                            refine g_iload 4 dX7_wheels_94 rfl ?_
                            refine g_iload 9 dX7_wheels_96 rfl ?_
                            refine g_isub dX7_wheels_98 ?_
                            refine g_callV_v (n := 4) (As := [.int (iI l), .int (iI (lw + y2)), .int (iI x2), .int (iI (h - y2))]) (wr := [(ra 37, aI E 169 mo)]) (C := RX7) [] (c_X7_piles E m0 ra mm nf ti so ta go sl lo cn lx ly pm (pi + 1) (up (up (up (up zt (4 * pi) (l + x1)) (4 * pi + 1) (lw + y1)) (4 * pi + 2) (x2 - x1)) (4 * pi + 3) (y2 - y1)) l (lw + y2) x2 (h - y2) (by omega)) [0, 2] [1] 0 rfl rfl gX7_wheels_X7_piles rfl ⟨rfl, by decide +kernel⟩ ⟨by decide, by decide⟩ rfl rfl rfl rfl rfl (by decide) rfl (by decide) (by decide) (fun _ h => absurd h List.not_mem_nil) dX7_wheels_99 rfl (Nat.le_of_ble_eq_true rfl) ⟨by decide, by decide⟩ (fun u p_7 => ?_)
                            subst p_7
                            refine g_perm (ws1 := [(m0, oo 7 (fMo ra mm nf ti so ta go sl lo cn lx ly pm ((pi + 1) + 1))), (ra 37, aI E 169 mo), (ra 41, aI E 1200 (up (up (up (up (up (up (up (up zt (4 * pi) (l + x1)) (4 * pi + 1) (lw + y1)) (4 * pi + 2) (x2 - x1)) (4 * pi + 3) (y2 - y1)) (4 * (pi + 1)) l) (4 * (pi + 1) + 1) (lw + y2)) (4 * (pi + 1) + 2) x2) (4 * (pi + 1) + 3) (h - y2)))]) [1, 0, 2] rfl (by decide) rfl ?_
                            refine g_aload_n 0 dX7_wheels_102 rfl rfl ?_
                            refine g_iload_n 1 dX7_wheels_103 rfl rfl ?_
                            refine g_iload 7 dX7_wheels_104 rfl ?_
                            refine g_iadd dX7_wheels_106 ?_
                            refine g_iload_n 2 dX7_wheels_107 rfl rfl ?_
                            refine g_iload 8 dX7_wheels_108 rfl ?_
                            refine g_iadd dX7_wheels_110 ?_
                            refine g_iload_n 3 dX7_wheels_111 rfl rfl ?_
                            refine g_iload 7 dX7_wheels_112 rfl ?_
                            refine g_isub dX7_wheels_114 ?_
                            refine g_iload 4 dX7_wheels_115 rfl ?_
                            refine g_iload 8 dX7_wheels_117 rfl ?_
                            refine g_isub dX7_wheels_119 ?_
                            refine g_callV_v (n := 4) (As := [.int (iI (l + x2)), .int (iI (lw + y1)), .int (iI (w - x2)), .int (iI (h - y1))]) (wr := [(ra 37, aI E 169 mo)]) (C := RX7) [] (c_X7_piles E m0 ra mm nf ti so ta go sl lo cn lx ly pm ((pi + 1) + 1) (up (up (up (up (up (up (up (up zt (4 * pi) (l + x1)) (4 * pi + 1) (lw + y1)) (4 * pi + 2) (x2 - x1)) (4 * pi + 3) (y2 - y1)) (4 * (pi + 1)) l) (4 * (pi + 1) + 1) (lw + y2)) (4 * (pi + 1) + 2) x2) (4 * (pi + 1) + 3) (h - y2)) (l + x2) (lw + y1) (w - x2) (h - y1) (by omega)) [0, 2] [1] 0 rfl rfl gX7_wheels_X7_piles rfl ⟨rfl, by decide +kernel⟩ ⟨by decide, by decide⟩ rfl rfl rfl rfl rfl (by decide) rfl (by decide) (by decide) (fun _ h => absurd h List.not_mem_nil) dX7_wheels_120 rfl (Nat.le_of_ble_eq_true rfl) ⟨by decide, by decide⟩ (fun u p_8 => ?_)
                            subst p_8
                            refine g_perm (ws1 := [(m0, oo 7 (fMo ra mm nf ti so ta go sl lo cn lx ly pm (((pi + 1) + 1) + 1))), (ra 37, aI E 169 mo), (ra 41, aI E 1200 (up (up (up (up (up (up (up (up (up (up (up (up zt (4 * pi) (l + x1)) (4 * pi + 1) (lw + y1)) (4 * pi + 2) (x2 - x1)) (4 * pi + 3) (y2 - y1)) (4 * (pi + 1)) l) (4 * (pi + 1) + 1) (lw + y2)) (4 * (pi + 1) + 2) x2) (4 * (pi + 1) + 3) (h - y2)) (4 * ((pi + 1) + 1)) (l + x2)) (4 * ((pi + 1) + 1) + 1) (lw + y1)) (4 * ((pi + 1) + 1) + 2) (w - x2)) (4 * ((pi + 1) + 1) + 3) (h - y1)))]) [1, 0, 2] rfl (by decide) rfl ?_
                            refine g_aload_n 0 dX7_wheels_123 rfl rfl ?_
                            refine g_iload_n 1 dX7_wheels_124 rfl rfl ?_
                            refine g_iload 6 dX7_wheels_125 rfl ?_
                            refine g_iadd dX7_wheels_127 ?_
                            refine g_iload_n 2 dX7_wheels_128 rfl rfl ?_
                            refine g_iload_n 3 dX7_wheels_129 rfl rfl ?_
                            refine g_iload 6 dX7_wheels_130 rfl ?_
                            refine g_isub dX7_wheels_132 ?_
                            refine g_iload 8 dX7_wheels_133 rfl ?_
                            refine g_callV_v (n := 4) (As := [.int (iI (l + x1)), .int (iI lw), .int (iI (w - x1)), .int (iI y1)]) (wr := [(ra 37, aI E 169 mo)]) (C := RX7) [] (c_X7_piles E m0 ra mm nf ti so ta go sl lo cn lx ly pm (((pi + 1) + 1) + 1) (up (up (up (up (up (up (up (up (up (up (up (up zt (4 * pi) (l + x1)) (4 * pi + 1) (lw + y1)) (4 * pi + 2) (x2 - x1)) (4 * pi + 3) (y2 - y1)) (4 * (pi + 1)) l) (4 * (pi + 1) + 1) (lw + y2)) (4 * (pi + 1) + 2) x2) (4 * (pi + 1) + 3) (h - y2)) (4 * ((pi + 1) + 1)) (l + x2)) (4 * ((pi + 1) + 1) + 1) (lw + y1)) (4 * ((pi + 1) + 1) + 2) (w - x2)) (4 * ((pi + 1) + 1) + 3) (h - y1)) (l + x1) lw (w - x1) y1 (by omega)) [0, 2] [1] 0 rfl rfl gX7_wheels_X7_piles rfl ⟨rfl, by decide +kernel⟩ ⟨by decide, by decide⟩ rfl rfl rfl rfl rfl (by decide) rfl (by decide) (by decide) (fun _ h => absurd h List.not_mem_nil) dX7_wheels_135 rfl (Nat.le_of_ble_eq_true rfl) ⟨by decide, by decide⟩ (fun u p_9 => ?_)
                            subst p_9
                            refine g_perm (ws1 := [(m0, oo 7 (fMo ra mm nf ti so ta go sl lo cn lx ly pm ((((pi + 1) + 1) + 1) + 1))), (ra 37, aI E 169 mo), (ra 41, aI E 1200 (up (up (up (up (up (up (up (up (up (up (up (up (up (up (up (up zt (4 * pi) (l + x1)) (4 * pi + 1) (lw + y1)) (4 * pi + 2) (x2 - x1)) (4 * pi + 3) (y2 - y1)) (4 * (pi + 1)) l) (4 * (pi + 1) + 1) (lw + y2)) (4 * (pi + 1) + 2) x2) (4 * (pi + 1) + 3) (h - y2)) (4 * ((pi + 1) + 1)) (l + x2)) (4 * ((pi + 1) + 1) + 1) (lw + y1)) (4 * ((pi + 1) + 1) + 2) (w - x2)) (4 * ((pi + 1) + 1) + 3) (h - y1)) (4 * (((pi + 1) + 1) + 1)) (l + x1)) (4 * (((pi + 1) + 1) + 1) + 1) lw) (4 * (((pi + 1) + 1) + 1) + 2) (w - x1)) (4 * (((pi + 1) + 1) + 1) + 3) y1))]) [1, 0, 2] rfl (by decide) rfl ?_
                            refine g_aload_n 0 dX7_wheels_138 rfl rfl ?_
                            refine g_iload_n 1 dX7_wheels_139 rfl rfl ?_
                            refine g_iload_n 2 dX7_wheels_140 rfl rfl ?_
                            refine g_iload 6 dX7_wheels_141 rfl ?_
                            refine g_iload 9 dX7_wheels_143 rfl ?_
                            refine g_callV_v (n := 4) (As := [.int (iI l), .int (iI lw), .int (iI x1), .int (iI y2)]) (wr := [(ra 37, aI E 169 mo)]) (C := RX7) [] (c_X7_piles E m0 ra mm nf ti so ta go sl lo cn lx ly pm ((((pi + 1) + 1) + 1) + 1) (up (up (up (up (up (up (up (up (up (up (up (up (up (up (up (up zt (4 * pi) (l + x1)) (4 * pi + 1) (lw + y1)) (4 * pi + 2) (x2 - x1)) (4 * pi + 3) (y2 - y1)) (4 * (pi + 1)) l) (4 * (pi + 1) + 1) (lw + y2)) (4 * (pi + 1) + 2) x2) (4 * (pi + 1) + 3) (h - y2)) (4 * ((pi + 1) + 1)) (l + x2)) (4 * ((pi + 1) + 1) + 1) (lw + y1)) (4 * ((pi + 1) + 1) + 2) (w - x2)) (4 * ((pi + 1) + 1) + 3) (h - y1)) (4 * (((pi + 1) + 1) + 1)) (l + x1)) (4 * (((pi + 1) + 1) + 1) + 1) lw) (4 * (((pi + 1) + 1) + 1) + 2) (w - x1)) (4 * (((pi + 1) + 1) + 1) + 3) y1) l lw x1 y2 (by omega)) [0, 2] [1] 0 rfl rfl gX7_wheels_X7_piles rfl ⟨rfl, by decide +kernel⟩ ⟨by decide, by decide⟩ rfl rfl rfl rfl rfl (by decide) rfl (by decide) (by decide) (fun _ h => absurd h List.not_mem_nil) dX7_wheels_145 rfl (Nat.le_of_ble_eq_true rfl) ⟨by decide, by decide⟩ (fun u p_10 => ?_)
                            subst p_10
                            refine g_perm (ws1 := [(m0, oo 7 (fMo ra mm nf ti so ta go sl lo cn lx ly pm (((((pi + 1) + 1) + 1) + 1) + 1))), (ra 37, aI E 169 mo), (ra 41, aI E 1200 (up (up (up (up (up (up (up (up (up (up (up (up (up (up (up (up (up (up (up (up zt (4 * pi) (l + x1)) (4 * pi + 1) (lw + y1)) (4 * pi + 2) (x2 - x1)) (4 * pi + 3) (y2 - y1)) (4 * (pi + 1)) l) (4 * (pi + 1) + 1) (lw + y2)) (4 * (pi + 1) + 2) x2) (4 * (pi + 1) + 3) (h - y2)) (4 * ((pi + 1) + 1)) (l + x2)) (4 * ((pi + 1) + 1) + 1) (lw + y1)) (4 * ((pi + 1) + 1) + 2) (w - x2)) (4 * ((pi + 1) + 1) + 3) (h - y1)) (4 * (((pi + 1) + 1) + 1)) (l + x1)) (4 * (((pi + 1) + 1) + 1) + 1) lw) (4 * (((pi + 1) + 1) + 1) + 2) (w - x1)) (4 * (((pi + 1) + 1) + 1) + 3) y1) (4 * ((((pi + 1) + 1) + 1) + 1)) l) (4 * ((((pi + 1) + 1) + 1) + 1) + 1) lw) (4 * ((((pi + 1) + 1) + 1) + 1) + 2) x1) (4 * ((((pi + 1) + 1) + 1) + 1) + 3) y2))]) [1, 0, 2] rfl (by decide) rfl ?_
                            exact g_vret hRet dX7_wheels_148 ⟨(((((pi + 1) + 1) + 1) + 1) + 1), (up (up (up (up (up (up (up (up (up (up (up (up (up (up (up (up (up (up (up (up zt (4 * pi) (l + x1)) (4 * pi + 1) (lw + y1)) (4 * pi + 2) (x2 - x1)) (4 * pi + 3) (y2 - y1)) (4 * (pi + 1)) l) (4 * (pi + 1) + 1) (lw + y2)) (4 * (pi + 1) + 2) x2) (4 * (pi + 1) + 3) (h - y2)) (4 * ((pi + 1) + 1)) (l + x2)) (4 * ((pi + 1) + 1) + 1) (lw + y1)) (4 * ((pi + 1) + 1) + 2) (w - x2)) (4 * ((pi + 1) + 1) + 3) (h - y1)) (4 * (((pi + 1) + 1) + 1)) (l + x1)) (4 * (((pi + 1) + 1) + 1) + 1) lw) (4 * (((pi + 1) + 1) + 1) + 2) (w - x1)) (4 * (((pi + 1) + 1) + 1) + 3) y1) (4 * ((((pi + 1) + 1) + 1) + 1)) l) (4 * ((((pi + 1) + 1) + 1) + 1) + 1) lw) (4 * ((((pi + 1) + 1) + 1) + 1) + 2) x1) (4 * ((((pi + 1) + 1) + 1) + 1) + 3) y2), (by exact ⟨_, Or.inr (Or.inr ⟨hU, hLv, x1, x2, y1, y2, by unfold vN; omega, hne.trans hal, hI4, rfl⟩), rep_push (rep_push (rep_push (rep_push (rep_push hr _ _ _ _) _ _ _ _) _ _ _ _) _ _ _ _) _ _ _ _⟩), rfl⟩
                          · refine g_iinc (lv1 := [(9, .int (iI (y2 + 1))), (0, .ref m0), (1, .int (iI l)), (2, .int (iI lw)), (3, .int (iI w)), (4, .int (iI h)), (5, .int (iI al)), (6, .int (iI x1)), (7, .int (iI x2)), (8, .int (iI y1))]) 9 dX7_wheels_149 rfl (by decide) rfl ?_
                            refine g_goto (tgt := 37) dX7_wheels_152 rfl ?_
                            refine g_lv (lv1 := [(0, .ref m0), (1, .int (iI l)), (2, .int (iI lw)), (3, .int (iI w)), (4, .int (iI h)), (5, .int (iI al)), (6, .int (iI x1)), (7, .int (iI x2)), (8, .int (iI y1)), (9, .int (iI (y2 + 1)))]) [1, 2, 3, 4, 5, 6, 7, 8, 9, 0] rfl ?_
                            exact ih37 (y2 + 1) (by omega) (by exact aK_s (by omega) (by omega) (by omega) (by omega) hI4 (fun _ _ _ _ q => q) (by rw [← hal]; exact hne)) (by omega)
                    exact L37 _ (y1 + 1) (by omega) (by exact aK_y2 (hy := by omega) (by omega) (by omega) (by omega) hI3) (lt_nn _)
              exact L24 _ 1 (by omega) (by exact aK_y1  (by omega) (by omega) (by omega) hI2) (lt_nn _)
        exact L15 _ (x1 + 1) (by omega) (by exact aK_x2  (by omega) (by omega) (by omega) hI1) (lt_nn _)
  exact L3 _ 1 (by omega) (by exact aK_0 (by omega) (by omega) (by omega)) (lt_nn _)

set_option maxHeartbeats 4000000 in
set_option maxRecDepth 100000 in
theorem c_X7_plans (E : Ev) (m0 : Nat) (ra : Nat → Nat) (mm : Int) (nf : Int) (ti : Int) (so : Int) (ta : Int) (go : Int) (sl : Int) (lo : Int) (cn : Int) (lx : Int) (ly : Int) (pm : Int) (pi : Int) (mo : Int → Int) (zt : Int → Int) (zc : Int → Int) (l : Int) (lw : Int) (w : Int) (h : Int) (qa : Int) (qb : Int) (Rs : List Qd) (Ps : List Qd) (hxy : (1 ≤ lx ∧ lx ≤ 12) ∧ 1 ≤ ly ∧ ly ≤ 12) (hq : (1 ≤ qa ∧ qa ≤ 12) ∧ 1 ≤ qb ∧ qb ≤ 12) (hmo : ∀ k, 0 ≤ mo k ∧ mo k ≤ 144) (hT : gT qa qb (tb mo) lx ly) (hw : 1 ≤ w ∧ w ≤ lx) (hh : 1 ≤ h ∧ h ≤ ly) (hr : rep zt pi Rs) (har : pi + w * h ≤ 144) (hrc : rep zc pm Ps) (hpm : pm < 144) : MV yX7_plans wsX7_plans ({ frames := 3, cells := 0, slots := 0, locals := 77 } : Room) E [] 0 0 [.ref m0, .int (iI l), .int (iI lw), .int (iI w), .int (iI h), .int (iI qa), .int (iI qb)] [(m0, oo 7 (fMo ra mm nf ti so ta go sl lo cn lx ly pm pi)), (ra 37, aI E 169 mo), (ra 41, aI E 1200 zt), (ra 39, aI E 576 zc)] (fun u => ∃ (pi' : Int), ∃ (pm' : Int), ∃ (zt' : Int → Int), ∃ (zc' : Int → Int), (∃ L' P', stp qa qb (tb mo) ((l, lw, w, h) :: Rs) Ps L' P' ∧ rep zt' pi' L' ∧ rep zc' pm' P') ∧ u = [(m0, oo 7 (fMo ra mm nf ti so ta go sl lo cn lx ly pm' pi')), (ra 37, aI E 169 mo), (ra 41, aI E 1200 zt'), (ra 39, aI E 576 zc')]) := by
  refine MV.of (cc := cX7_plans) (maxL := 9) (own := RX7) (by decide) rfl rfl rfl (Nat.le_of_ble_eq_true rfl) [(0, .ref m0), (1, .int (iI l)), (2, .int (iI lw)), (3, .int (iI w)), (4, .int (iI h)), (5, .int (iI qa)), (6, .int (iI qb))] rfl ?_
  intro X hin2 hRet
  have hlen := rep_len hr
  have hlenc := rep_len hrc
  have hB := hT w h (by omega) (by omega) (by omega) (by omega)
  have hG := gT_g hT (w := w) (h := h) (by omega) (by omega)
  have hmw := tb_b hmo w h
  refine g_aload_n 0 dX7_plans_0 rfl rfl ?_
  refine g_iload_n 3 dX7_plans_1 rfl rfl ?_
  refine g_iload 4 dX7_plans_2 rfl ?_
  refine g_callV_i (n := 2) (As := [.int (iI w), .int (iI h)]) (wr := [(ra 41, aI E 1200 zt), (ra 39, aI E 576 zc)]) (C := RX7) [] (c_X7_mostOf E m0 ra mm nf ti so ta go sl lo cn lx ly pm pi mo w h (by omega) (by omega)) [0, 1] [2, 3] 0 rfl rfl gX7_plans_X7_mostOf rfl ⟨rfl, by decide +kernel⟩ ⟨by decide, by decide⟩ rfl rfl rfl rfl rfl (by decide) rfl (by decide) (by decide) (fun _ h => absurd h List.not_mem_nil) dX7_plans_4 rfl (Nat.le_of_ble_eq_true rfl) ⟨by decide, by decide⟩ (fun r u p_1 => ?_)
  obtain ⟨rfl, rfl⟩ := p_1
  refine g_perm (ws1 := [(m0, oo 7 (fMo ra mm nf ti so ta go sl lo cn lx ly pm pi)), (ra 37, aI E 169 mo), (ra 41, aI E 1200 zt), (ra 39, aI E 576 zc)]) [2, 3, 0, 1] rfl (by decide) rfl ?_
  refine g_istore (lv1 := [(7, .int (iI (tb mo w h))), (0, .ref m0), (1, .int (iI l)), (2, .int (iI lw)), (3, .int (iI w)), (4, .int (iI h)), (5, .int (iI qa)), (6, .int (iI qb))]) dX7_plans_7 (by decide) rfl ?_
  refine g_iload 0 dX7_plans_9 rfl ?_
  refine g_iconst dX7_plans_11 ?_
  refine g_icmp_ne (tgt := 121) (by unfold R32; omega) (by unfold R32; omega) dX7_plans_12 rfl (fun hm1 => ?_) (fun hm1 => ?_)
  · refine g_iload 6 dX7_plans_15 rfl ?_
    refine g_iload_n 4 dX7_plans_17 rfl rfl ?_
    refine g_icmp_gt (tgt := 32) (by unfold R32; omega) (by unfold R32; omega) dX7_plans_18 rfl (fun c_2 => ?_) (fun c_2 => ?_)
    · refine g_iconst dX7_plans_32 ?_
      refine g_istore (lv1 := [(8, .int (iI 0)), (7, .int (iI (tb mo w h))), (0, .ref m0), (1, .int (iI l)), (2, .int (iI lw)), (3, .int (iI w)), (4, .int (iI h)), (5, .int (iI qa)), (6, .int (iI qb))]) dX7_plans_33 (by decide) rfl ?_
      refine g_aload_n 2 dX7_plans_35 rfl rfl ?_
      refine g_get (C := RX7) (T := TX7) (N := 43) 0 39 (fun _ h => List.mem_cons_of_mem _ (List.mem_append_right _ h)) (List.mem_of_getElem? (i := 1) rfl) rfl rfl (by decide) rfl rfl dX7_plans_36 ?_
      refine g_iconst dX7_plans_39 ?_
      refine g_aload_n 2 dX7_plans_40 rfl rfl ?_
      refine g_get (C := RX7) (T := TX7) (N := 43) 0 38 (fun _ h => List.mem_cons_of_mem _ (List.mem_append_right _ h)) (List.mem_of_getElem? (i := 2) rfl) rfl rfl (by decide) rfl rfl dX7_plans_41 ?_
      refine g_imul dX7_plans_44 ?_
      refine g_iload_n 3 dX7_plans_45 rfl rfl ?_
      refine g_iast (ws1 := [(m0, oo 7 (fMo ra mm nf ti so ta go sl lo cn lx ly pm pi)), (ra 37, aI E 169 mo), (ra 41, aI E 1200 zt), (ra 39, aI E 576 (up zc (4 * pm) l))]) 3 dX7_plans_46 rfl rfl (by decide) (by omega) (by omega) ?_
      refine g_aload_n 2 dX7_plans_47 rfl rfl ?_
      refine g_get (C := RX7) (T := TX7) (N := 43) 0 39 (fun _ h => List.mem_cons_of_mem _ (List.mem_append_right _ h)) (List.mem_of_getElem? (i := 1) rfl) rfl rfl (by decide) rfl rfl dX7_plans_48 ?_
      refine g_iconst dX7_plans_51 ?_
      refine g_aload_n 2 dX7_plans_52 rfl rfl ?_
      refine g_get (C := RX7) (T := TX7) (N := 43) 0 38 (fun _ h => List.mem_cons_of_mem _ (List.mem_append_right _ h)) (List.mem_of_getElem? (i := 2) rfl) rfl rfl (by decide) rfl rfl dX7_plans_53 ?_
      refine g_imul dX7_plans_56 ?_
      refine g_iconst dX7_plans_57 ?_
      refine g_iadd dX7_plans_58 ?_
      refine g_iload_n 4 dX7_plans_59 rfl rfl ?_
      refine g_iast (ws1 := [(m0, oo 7 (fMo ra mm nf ti so ta go sl lo cn lx ly pm pi)), (ra 37, aI E 169 mo), (ra 41, aI E 1200 zt), (ra 39, aI E 576 (up (up zc (4 * pm) l) ((4 * pm) + 1) lw))]) 3 dX7_plans_60 rfl rfl (by decide) (by omega) (by omega) ?_
      refine g_aload_n 2 dX7_plans_61 rfl rfl ?_
      refine g_get (C := RX7) (T := TX7) (N := 43) 0 39 (fun _ h => List.mem_cons_of_mem _ (List.mem_append_right _ h)) (List.mem_of_getElem? (i := 1) rfl) rfl rfl (by decide) rfl rfl dX7_plans_62 ?_
      refine g_iconst dX7_plans_65 ?_
      refine g_aload_n 2 dX7_plans_66 rfl rfl ?_
      refine g_get (C := RX7) (T := TX7) (N := 43) 0 38 (fun _ h => List.mem_cons_of_mem _ (List.mem_append_right _ h)) (List.mem_of_getElem? (i := 2) rfl) rfl rfl (by decide) rfl rfl dX7_plans_67 ?_
      refine g_imul dX7_plans_70 ?_
      refine g_iconst dX7_plans_71 ?_
      refine g_iadd dX7_plans_72 ?_
      refine g_iload 0 dX7_plans_73 rfl ?_
      refine g_if_eq (tgt := 83) (by unfold R32; omega) dX7_plans_75 rfl (fun _ => ?_) (fun q => absurd q (by decide))
      refine g_iload 8 dX7_plans_83 rfl ?_
      refine g_iast (ws1 := [(m0, oo 7 (fMo ra mm nf ti so ta go sl lo cn lx ly pm pi)), (ra 37, aI E 169 mo), (ra 41, aI E 1200 zt), (ra 39, aI E 576 (up (up (up zc (4 * pm) l) ((4 * pm) + 1) lw) ((4 * pm) + 2) qb))]) 3 dX7_plans_85 rfl rfl (by decide) (by omega) (by omega) ?_
      refine g_aload_n 2 dX7_plans_86 rfl rfl ?_
      refine g_get (C := RX7) (T := TX7) (N := 43) 0 39 (fun _ h => List.mem_cons_of_mem _ (List.mem_append_right _ h)) (List.mem_of_getElem? (i := 1) rfl) rfl rfl (by decide) rfl rfl dX7_plans_87 ?_
      refine g_iconst dX7_plans_90 ?_
      refine g_aload_n 2 dX7_plans_91 rfl rfl ?_
      refine g_get (C := RX7) (T := TX7) (N := 43) 0 38 (fun _ h => List.mem_cons_of_mem _ (List.mem_append_right _ h)) (List.mem_of_getElem? (i := 2) rfl) rfl rfl (by decide) rfl rfl dX7_plans_92 ?_
      refine g_imul dX7_plans_95 ?_
      refine g_iconst dX7_plans_96 ?_
      refine g_iadd dX7_plans_97 ?_
      refine g_iload 0 dX7_plans_98 rfl ?_
      refine g_if_eq (tgt := 108) (by unfold R32; omega) dX7_plans_100 rfl (fun _ => ?_) (fun q => absurd q (by decide))
      refine g_iload 7 dX7_plans_108 rfl ?_
      refine g_iast (ws1 := [(m0, oo 7 (fMo ra mm nf ti so ta go sl lo cn lx ly pm pi)), (ra 37, aI E 169 mo), (ra 41, aI E 1200 zt), (ra 39, aI E 576 (up (up (up (up zc (4 * pm) l) ((4 * pm) + 1) lw) ((4 * pm) + 2) qb) ((4 * pm) + 3) qa))]) 3 dX7_plans_110 rfl rfl (by decide) (by omega) (by omega) ?_
      refine g_aload_n 2 dX7_plans_111 rfl rfl ?_
      refine g_dup dX7_plans_112 rfl ?_
      refine g_get (C := RX7) (T := TX7) (N := 43) 0 38 (fun _ h => List.mem_cons_of_mem _ (List.mem_append_right _ h)) (List.mem_of_getElem? (i := 2) rfl) rfl rfl (by decide) rfl rfl dX7_plans_113 ?_
      refine g_iconst dX7_plans_116 ?_
      refine g_iadd dX7_plans_117 ?_
      refine g_put (C := RX7) (T := TX7) (N := 43) (ws1 := [(m0, oo 7 (fMo ra mm nf ti so ta go sl lo cn lx ly (pm + 1) pi)), (ra 37, aI E 169 mo), (ra 41, aI E 1200 zt), (ra 39, aI E 576 (up (up (up (up zc (4 * pm) l) ((4 * pm) + 1) lw) ((4 * pm) + 2) qb) ((4 * pm) + 3) qa))]) 0 38 (fun _ h => List.mem_cons_of_mem _ (List.mem_append_right _ h)) tyX7 tyX7_ok nmX7 (List.mem_of_getElem? (i := 2) rfl) rfl rfl (by decide) rfl (tyX7_ok 38 (by decide)) rfl rfl (by first | decide | exact Nat.le_of_ble_eq_true rfl) dX7_plans_118 rfl rfl ?_
      refine g_iload 1 dX7_plans_121 rfl ?_
      refine g_iconst dX7_plans_123 ?_
      refine g_icmp_le (tgt := 152) (by unfold R32; omega) (by unfold R32; omega) dX7_plans_124 rfl (fun hm2 => ?_) (fun hm2 => ?_)
      · exact g_vret hRet dX7_plans_152 ⟨pi, (pm + 1), zt, (up (up (up (up zc (4 * pm) l) ((4 * pm) + 1) lw) ((4 * pm) + 2) qb) ((4 * pm) + 3) qa), (by first | (exfalso; omega) | (obtain ⟨C, hC1, hC2⟩ := fp; exact ⟨_, _, ⟨l, lw, w, h, Rs, rfl, Or.inr (Or.inl ⟨by omega, rfl, C, hC1, rfl⟩)⟩, hC2, hrc⟩) | (rcases fu with ⟨-, C, hC1, hC2⟩ | ⟨q, -⟩; exact ⟨_, _, ⟨l, lw, w, h, Rs, rfl, Or.inr (Or.inl ⟨by omega, rfl, C, hC1, rfl⟩)⟩, hC2, hrc⟩; omega) | (refine ⟨_, _, ⟨l, lw, w, h, Rs, rfl, Or.inl ⟨hm1, rfl, rfl⟩⟩, hr, ?_⟩; first | (rw [if_pos (by omega), if_pos (by omega)]; exact rep_push hrc _ _ _ _) | (rw [if_neg (by omega), if_neg (by omega)]; exact rep_push hrc _ _ _ _)) | (exact ⟨_, _, ⟨l, lw, w, h, Rs, rfl, Or.inr (Or.inr ⟨by omega, rfl, rfl⟩)⟩, hr, hrc⟩)), rfl⟩
      · exact absurd (show tb mo w h ≤ 1 by omega) (by assumption)
    · refine g_iload 7 dX7_plans_21 rfl ?_
      refine g_iload 5 dX7_plans_23 rfl ?_
      refine g_icmp_gt (tgt := 32) (by unfold R32; omega) (by unfold R32; omega) dX7_plans_25 rfl (fun c_5 => ?_) (fun c_5 => ?_)
      · refine g_iconst dX7_plans_32 ?_
        refine g_istore (lv1 := [(8, .int (iI 0)), (7, .int (iI (tb mo w h))), (0, .ref m0), (1, .int (iI l)), (2, .int (iI lw)), (3, .int (iI w)), (4, .int (iI h)), (5, .int (iI qa)), (6, .int (iI qb))]) dX7_plans_33 (by decide) rfl ?_
        refine g_aload_n 2 dX7_plans_35 rfl rfl ?_
        refine g_get (C := RX7) (T := TX7) (N := 43) 0 39 (fun _ h => List.mem_cons_of_mem _ (List.mem_append_right _ h)) (List.mem_of_getElem? (i := 1) rfl) rfl rfl (by decide) rfl rfl dX7_plans_36 ?_
        refine g_iconst dX7_plans_39 ?_
        refine g_aload_n 2 dX7_plans_40 rfl rfl ?_
        refine g_get (C := RX7) (T := TX7) (N := 43) 0 38 (fun _ h => List.mem_cons_of_mem _ (List.mem_append_right _ h)) (List.mem_of_getElem? (i := 2) rfl) rfl rfl (by decide) rfl rfl dX7_plans_41 ?_
        refine g_imul dX7_plans_44 ?_
        refine g_iload_n 3 dX7_plans_45 rfl rfl ?_
        refine g_iast (ws1 := [(m0, oo 7 (fMo ra mm nf ti so ta go sl lo cn lx ly pm pi)), (ra 37, aI E 169 mo), (ra 41, aI E 1200 zt), (ra 39, aI E 576 (up zc (4 * pm) l))]) 3 dX7_plans_46 rfl rfl (by decide) (by omega) (by omega) ?_
        refine g_aload_n 2 dX7_plans_47 rfl rfl ?_
        refine g_get (C := RX7) (T := TX7) (N := 43) 0 39 (fun _ h => List.mem_cons_of_mem _ (List.mem_append_right _ h)) (List.mem_of_getElem? (i := 1) rfl) rfl rfl (by decide) rfl rfl dX7_plans_48 ?_
        refine g_iconst dX7_plans_51 ?_
        refine g_aload_n 2 dX7_plans_52 rfl rfl ?_
        refine g_get (C := RX7) (T := TX7) (N := 43) 0 38 (fun _ h => List.mem_cons_of_mem _ (List.mem_append_right _ h)) (List.mem_of_getElem? (i := 2) rfl) rfl rfl (by decide) rfl rfl dX7_plans_53 ?_
        refine g_imul dX7_plans_56 ?_
        refine g_iconst dX7_plans_57 ?_
        refine g_iadd dX7_plans_58 ?_
        refine g_iload_n 4 dX7_plans_59 rfl rfl ?_
        refine g_iast (ws1 := [(m0, oo 7 (fMo ra mm nf ti so ta go sl lo cn lx ly pm pi)), (ra 37, aI E 169 mo), (ra 41, aI E 1200 zt), (ra 39, aI E 576 (up (up zc (4 * pm) l) ((4 * pm) + 1) lw))]) 3 dX7_plans_60 rfl rfl (by decide) (by omega) (by omega) ?_
        refine g_aload_n 2 dX7_plans_61 rfl rfl ?_
        refine g_get (C := RX7) (T := TX7) (N := 43) 0 39 (fun _ h => List.mem_cons_of_mem _ (List.mem_append_right _ h)) (List.mem_of_getElem? (i := 1) rfl) rfl rfl (by decide) rfl rfl dX7_plans_62 ?_
        refine g_iconst dX7_plans_65 ?_
        refine g_aload_n 2 dX7_plans_66 rfl rfl ?_
        refine g_get (C := RX7) (T := TX7) (N := 43) 0 38 (fun _ h => List.mem_cons_of_mem _ (List.mem_append_right _ h)) (List.mem_of_getElem? (i := 2) rfl) rfl rfl (by decide) rfl rfl dX7_plans_67 ?_
        refine g_imul dX7_plans_70 ?_
        refine g_iconst dX7_plans_71 ?_
        refine g_iadd dX7_plans_72 ?_
        refine g_iload 0 dX7_plans_73 rfl ?_
        refine g_if_eq (tgt := 83) (by unfold R32; omega) dX7_plans_75 rfl (fun _ => ?_) (fun q => absurd q (by decide))
        refine g_iload 8 dX7_plans_83 rfl ?_
        refine g_iast (ws1 := [(m0, oo 7 (fMo ra mm nf ti so ta go sl lo cn lx ly pm pi)), (ra 37, aI E 169 mo), (ra 41, aI E 1200 zt), (ra 39, aI E 576 (up (up (up zc (4 * pm) l) ((4 * pm) + 1) lw) ((4 * pm) + 2) qb))]) 3 dX7_plans_85 rfl rfl (by decide) (by omega) (by omega) ?_
        refine g_aload_n 2 dX7_plans_86 rfl rfl ?_
        refine g_get (C := RX7) (T := TX7) (N := 43) 0 39 (fun _ h => List.mem_cons_of_mem _ (List.mem_append_right _ h)) (List.mem_of_getElem? (i := 1) rfl) rfl rfl (by decide) rfl rfl dX7_plans_87 ?_
        refine g_iconst dX7_plans_90 ?_
        refine g_aload_n 2 dX7_plans_91 rfl rfl ?_
        refine g_get (C := RX7) (T := TX7) (N := 43) 0 38 (fun _ h => List.mem_cons_of_mem _ (List.mem_append_right _ h)) (List.mem_of_getElem? (i := 2) rfl) rfl rfl (by decide) rfl rfl dX7_plans_92 ?_
        refine g_imul dX7_plans_95 ?_
        refine g_iconst dX7_plans_96 ?_
        refine g_iadd dX7_plans_97 ?_
        refine g_iload 0 dX7_plans_98 rfl ?_
        refine g_if_eq (tgt := 108) (by unfold R32; omega) dX7_plans_100 rfl (fun _ => ?_) (fun q => absurd q (by decide))
        refine g_iload 7 dX7_plans_108 rfl ?_
        refine g_iast (ws1 := [(m0, oo 7 (fMo ra mm nf ti so ta go sl lo cn lx ly pm pi)), (ra 37, aI E 169 mo), (ra 41, aI E 1200 zt), (ra 39, aI E 576 (up (up (up (up zc (4 * pm) l) ((4 * pm) + 1) lw) ((4 * pm) + 2) qb) ((4 * pm) + 3) qa))]) 3 dX7_plans_110 rfl rfl (by decide) (by omega) (by omega) ?_
        refine g_aload_n 2 dX7_plans_111 rfl rfl ?_
        refine g_dup dX7_plans_112 rfl ?_
        refine g_get (C := RX7) (T := TX7) (N := 43) 0 38 (fun _ h => List.mem_cons_of_mem _ (List.mem_append_right _ h)) (List.mem_of_getElem? (i := 2) rfl) rfl rfl (by decide) rfl rfl dX7_plans_113 ?_
        refine g_iconst dX7_plans_116 ?_
        refine g_iadd dX7_plans_117 ?_
        refine g_put (C := RX7) (T := TX7) (N := 43) (ws1 := [(m0, oo 7 (fMo ra mm nf ti so ta go sl lo cn lx ly (pm + 1) pi)), (ra 37, aI E 169 mo), (ra 41, aI E 1200 zt), (ra 39, aI E 576 (up (up (up (up zc (4 * pm) l) ((4 * pm) + 1) lw) ((4 * pm) + 2) qb) ((4 * pm) + 3) qa))]) 0 38 (fun _ h => List.mem_cons_of_mem _ (List.mem_append_right _ h)) tyX7 tyX7_ok nmX7 (List.mem_of_getElem? (i := 2) rfl) rfl rfl (by decide) rfl (tyX7_ok 38 (by decide)) rfl rfl (by first | decide | exact Nat.le_of_ble_eq_true rfl) dX7_plans_118 rfl rfl ?_
        refine g_iload 1 dX7_plans_121 rfl ?_
        refine g_iconst dX7_plans_123 ?_
        refine g_icmp_le (tgt := 152) (by unfold R32; omega) (by unfold R32; omega) dX7_plans_124 rfl (fun hm2 => ?_) (fun hm2 => ?_)
        · exact g_vret hRet dX7_plans_152 ⟨pi, (pm + 1), zt, (up (up (up (up zc (4 * pm) l) ((4 * pm) + 1) lw) ((4 * pm) + 2) qb) ((4 * pm) + 3) qa), (by first | (exfalso; omega) | (obtain ⟨C, hC1, hC2⟩ := fp; exact ⟨_, _, ⟨l, lw, w, h, Rs, rfl, Or.inr (Or.inl ⟨by omega, rfl, C, hC1, rfl⟩)⟩, hC2, hrc⟩) | (rcases fu with ⟨-, C, hC1, hC2⟩ | ⟨q, -⟩; exact ⟨_, _, ⟨l, lw, w, h, Rs, rfl, Or.inr (Or.inl ⟨by omega, rfl, C, hC1, rfl⟩)⟩, hC2, hrc⟩; omega) | (refine ⟨_, _, ⟨l, lw, w, h, Rs, rfl, Or.inl ⟨hm1, rfl, rfl⟩⟩, hr, ?_⟩; first | (rw [if_pos (by omega), if_pos (by omega)]; exact rep_push hrc _ _ _ _) | (rw [if_neg (by omega), if_neg (by omega)]; exact rep_push hrc _ _ _ _)) | (exact ⟨_, _, ⟨l, lw, w, h, Rs, rfl, Or.inr (Or.inr ⟨by omega, rfl, rfl⟩)⟩, hr, hrc⟩)), rfl⟩
        · exact absurd (show tb mo w h ≤ 1 by omega) (by assumption)
      · refine g_iconst dX7_plans_28 ?_
        refine g_goto (tgt := 33) dX7_plans_29 rfl ?_
        refine g_istore (lv1 := [(8, .int (iI 1)), (7, .int (iI (tb mo w h))), (0, .ref m0), (1, .int (iI l)), (2, .int (iI lw)), (3, .int (iI w)), (4, .int (iI h)), (5, .int (iI qa)), (6, .int (iI qb))]) dX7_plans_33 (by decide) rfl ?_
        refine g_aload_n 2 dX7_plans_35 rfl rfl ?_
        refine g_get (C := RX7) (T := TX7) (N := 43) 0 39 (fun _ h => List.mem_cons_of_mem _ (List.mem_append_right _ h)) (List.mem_of_getElem? (i := 1) rfl) rfl rfl (by decide) rfl rfl dX7_plans_36 ?_
        refine g_iconst dX7_plans_39 ?_
        refine g_aload_n 2 dX7_plans_40 rfl rfl ?_
        refine g_get (C := RX7) (T := TX7) (N := 43) 0 38 (fun _ h => List.mem_cons_of_mem _ (List.mem_append_right _ h)) (List.mem_of_getElem? (i := 2) rfl) rfl rfl (by decide) rfl rfl dX7_plans_41 ?_
        refine g_imul dX7_plans_44 ?_
        refine g_iload_n 3 dX7_plans_45 rfl rfl ?_
        refine g_iast (ws1 := [(m0, oo 7 (fMo ra mm nf ti so ta go sl lo cn lx ly pm pi)), (ra 37, aI E 169 mo), (ra 41, aI E 1200 zt), (ra 39, aI E 576 (up zc (4 * pm) l))]) 3 dX7_plans_46 rfl rfl (by decide) (by omega) (by omega) ?_
        refine g_aload_n 2 dX7_plans_47 rfl rfl ?_
        refine g_get (C := RX7) (T := TX7) (N := 43) 0 39 (fun _ h => List.mem_cons_of_mem _ (List.mem_append_right _ h)) (List.mem_of_getElem? (i := 1) rfl) rfl rfl (by decide) rfl rfl dX7_plans_48 ?_
        refine g_iconst dX7_plans_51 ?_
        refine g_aload_n 2 dX7_plans_52 rfl rfl ?_
        refine g_get (C := RX7) (T := TX7) (N := 43) 0 38 (fun _ h => List.mem_cons_of_mem _ (List.mem_append_right _ h)) (List.mem_of_getElem? (i := 2) rfl) rfl rfl (by decide) rfl rfl dX7_plans_53 ?_
        refine g_imul dX7_plans_56 ?_
        refine g_iconst dX7_plans_57 ?_
        refine g_iadd dX7_plans_58 ?_
        refine g_iload_n 4 dX7_plans_59 rfl rfl ?_
        refine g_iast (ws1 := [(m0, oo 7 (fMo ra mm nf ti so ta go sl lo cn lx ly pm pi)), (ra 37, aI E 169 mo), (ra 41, aI E 1200 zt), (ra 39, aI E 576 (up (up zc (4 * pm) l) ((4 * pm) + 1) lw))]) 3 dX7_plans_60 rfl rfl (by decide) (by omega) (by omega) ?_
        refine g_aload_n 2 dX7_plans_61 rfl rfl ?_
        refine g_get (C := RX7) (T := TX7) (N := 43) 0 39 (fun _ h => List.mem_cons_of_mem _ (List.mem_append_right _ h)) (List.mem_of_getElem? (i := 1) rfl) rfl rfl (by decide) rfl rfl dX7_plans_62 ?_
        refine g_iconst dX7_plans_65 ?_
        refine g_aload_n 2 dX7_plans_66 rfl rfl ?_
        refine g_get (C := RX7) (T := TX7) (N := 43) 0 38 (fun _ h => List.mem_cons_of_mem _ (List.mem_append_right _ h)) (List.mem_of_getElem? (i := 2) rfl) rfl rfl (by decide) rfl rfl dX7_plans_67 ?_
        refine g_imul dX7_plans_70 ?_
        refine g_iconst dX7_plans_71 ?_
        refine g_iadd dX7_plans_72 ?_
        refine g_iload 0 dX7_plans_73 rfl ?_
        refine g_if_eq (tgt := 83) (by unfold R32; omega) dX7_plans_75 rfl (fun q => absurd q (by decide)) (fun _ => ?_)
        refine g_iload 7 dX7_plans_78 rfl ?_
        refine g_goto (tgt := 85) dX7_plans_80 rfl ?_
        refine g_iast (ws1 := [(m0, oo 7 (fMo ra mm nf ti so ta go sl lo cn lx ly pm pi)), (ra 37, aI E 169 mo), (ra 41, aI E 1200 zt), (ra 39, aI E 576 (up (up (up zc (4 * pm) l) ((4 * pm) + 1) lw) ((4 * pm) + 2) qa))]) 3 dX7_plans_85 rfl rfl (by decide) (by omega) (by omega) ?_
        refine g_aload_n 2 dX7_plans_86 rfl rfl ?_
        refine g_get (C := RX7) (T := TX7) (N := 43) 0 39 (fun _ h => List.mem_cons_of_mem _ (List.mem_append_right _ h)) (List.mem_of_getElem? (i := 1) rfl) rfl rfl (by decide) rfl rfl dX7_plans_87 ?_
        refine g_iconst dX7_plans_90 ?_
        refine g_aload_n 2 dX7_plans_91 rfl rfl ?_
        refine g_get (C := RX7) (T := TX7) (N := 43) 0 38 (fun _ h => List.mem_cons_of_mem _ (List.mem_append_right _ h)) (List.mem_of_getElem? (i := 2) rfl) rfl rfl (by decide) rfl rfl dX7_plans_92 ?_
        refine g_imul dX7_plans_95 ?_
        refine g_iconst dX7_plans_96 ?_
        refine g_iadd dX7_plans_97 ?_
        refine g_iload 0 dX7_plans_98 rfl ?_
        refine g_if_eq (tgt := 108) (by unfold R32; omega) dX7_plans_100 rfl (fun q => absurd q (by decide)) (fun _ => ?_)
        refine g_iload 8 dX7_plans_103 rfl ?_
        refine g_goto (tgt := 110) dX7_plans_105 rfl ?_
        refine g_iast (ws1 := [(m0, oo 7 (fMo ra mm nf ti so ta go sl lo cn lx ly pm pi)), (ra 37, aI E 169 mo), (ra 41, aI E 1200 zt), (ra 39, aI E 576 (up (up (up (up zc (4 * pm) l) ((4 * pm) + 1) lw) ((4 * pm) + 2) qa) ((4 * pm) + 3) qb))]) 3 dX7_plans_110 rfl rfl (by decide) (by omega) (by omega) ?_
        refine g_aload_n 2 dX7_plans_111 rfl rfl ?_
        refine g_dup dX7_plans_112 rfl ?_
        refine g_get (C := RX7) (T := TX7) (N := 43) 0 38 (fun _ h => List.mem_cons_of_mem _ (List.mem_append_right _ h)) (List.mem_of_getElem? (i := 2) rfl) rfl rfl (by decide) rfl rfl dX7_plans_113 ?_
        refine g_iconst dX7_plans_116 ?_
        refine g_iadd dX7_plans_117 ?_
        refine g_put (C := RX7) (T := TX7) (N := 43) (ws1 := [(m0, oo 7 (fMo ra mm nf ti so ta go sl lo cn lx ly (pm + 1) pi)), (ra 37, aI E 169 mo), (ra 41, aI E 1200 zt), (ra 39, aI E 576 (up (up (up (up zc (4 * pm) l) ((4 * pm) + 1) lw) ((4 * pm) + 2) qa) ((4 * pm) + 3) qb))]) 0 38 (fun _ h => List.mem_cons_of_mem _ (List.mem_append_right _ h)) tyX7 tyX7_ok nmX7 (List.mem_of_getElem? (i := 2) rfl) rfl rfl (by decide) rfl (tyX7_ok 38 (by decide)) rfl rfl (by first | decide | exact Nat.le_of_ble_eq_true rfl) dX7_plans_118 rfl rfl ?_
        refine g_iload 1 dX7_plans_121 rfl ?_
        refine g_iconst dX7_plans_123 ?_
        refine g_icmp_le (tgt := 152) (by unfold R32; omega) (by unfold R32; omega) dX7_plans_124 rfl (fun hm2 => ?_) (fun hm2 => ?_)
        · exact g_vret hRet dX7_plans_152 ⟨pi, (pm + 1), zt, (up (up (up (up zc (4 * pm) l) ((4 * pm) + 1) lw) ((4 * pm) + 2) qa) ((4 * pm) + 3) qb), (by first | (exfalso; omega) | (obtain ⟨C, hC1, hC2⟩ := fp; exact ⟨_, _, ⟨l, lw, w, h, Rs, rfl, Or.inr (Or.inl ⟨by omega, rfl, C, hC1, rfl⟩)⟩, hC2, hrc⟩) | (rcases fu with ⟨-, C, hC1, hC2⟩ | ⟨q, -⟩; exact ⟨_, _, ⟨l, lw, w, h, Rs, rfl, Or.inr (Or.inl ⟨by omega, rfl, C, hC1, rfl⟩)⟩, hC2, hrc⟩; omega) | (refine ⟨_, _, ⟨l, lw, w, h, Rs, rfl, Or.inl ⟨hm1, rfl, rfl⟩⟩, hr, ?_⟩; first | (rw [if_pos (by omega), if_pos (by omega)]; exact rep_push hrc _ _ _ _) | (rw [if_neg (by omega), if_neg (by omega)]; exact rep_push hrc _ _ _ _)) | (exact ⟨_, _, ⟨l, lw, w, h, Rs, rfl, Or.inr (Or.inr ⟨by omega, rfl, rfl⟩)⟩, hr, hrc⟩)), rfl⟩
        · exact absurd (show tb mo w h ≤ 1 by omega) (by assumption)
  · refine g_iload 0 dX7_plans_121 rfl ?_
    refine g_iconst dX7_plans_123 ?_
    refine g_icmp_le (tgt := 152) (by unfold R32; omega) (by unfold R32; omega) dX7_plans_124 rfl (fun hm2 => ?_) (fun hm2 => ?_)
    · exact g_vret hRet dX7_plans_152 ⟨pi, pm, zt, zc, (by first | (exfalso; omega) | (obtain ⟨C, hC1, hC2⟩ := fp; exact ⟨_, _, ⟨l, lw, w, h, Rs, rfl, Or.inr (Or.inl ⟨by omega, rfl, C, hC1, rfl⟩)⟩, hC2, hrc⟩) | (rcases fu with ⟨-, C, hC1, hC2⟩ | ⟨q, -⟩; exact ⟨_, _, ⟨l, lw, w, h, Rs, rfl, Or.inr (Or.inl ⟨by omega, rfl, C, hC1, rfl⟩)⟩, hC2, hrc⟩; omega) | (refine ⟨_, _, ⟨l, lw, w, h, Rs, rfl, Or.inl ⟨hm1, rfl, rfl⟩⟩, hr, ?_⟩; first | (rw [if_pos (by omega), if_pos (by omega)]; exact rep_push hrc _ _ _ _) | (rw [if_neg (by omega), if_neg (by omega)]; exact rep_push hrc _ _ _ _)) | (exact ⟨_, _, ⟨l, lw, w, h, Rs, rfl, Or.inr (Or.inr ⟨by omega, rfl, rfl⟩)⟩, hr, hrc⟩)), rfl⟩
    · refine g_aload_n 1 dX7_plans_127 rfl rfl ?_
      refine g_iload_n 2 dX7_plans_128 rfl rfl ?_
      refine g_iload_n 3 dX7_plans_129 rfl rfl ?_
      refine g_iload_n 4 dX7_plans_130 rfl rfl ?_
      refine g_iload 5 dX7_plans_131 rfl ?_
      refine g_iload 0 dX7_plans_133 rfl ?_
      refine g_callV_i (n := 5) (As := [.int (iI l), .int (iI lw), .int (iI w), .int (iI h), .int (iI (tb mo w h))]) (wr := [(ra 39, aI E 576 zc)]) (C := RX7) [] (c_X7_cuts E m0 ra mm nf ti so ta go sl lo cn lx ly pm pi mo zt l lw w h (tb mo w h) Rs (by omega) (by omega) (by exact hmo) (by exact hr) (by omega) (by rfl)) [0, 1, 2] [3] 0 rfl rfl gX7_plans_X7_cuts rfl ⟨rfl, by decide +kernel⟩ ⟨by decide, by decide⟩ rfl rfl rfl rfl rfl (by decide) rfl (by decide) (by decide) (fun _ h => absurd h List.not_mem_nil) dX7_plans_135 rfl (Nat.le_of_ble_eq_true rfl) ⟨by decide, by decide⟩ (fun r u p_10 => ?_)
      obtain ⟨xu, nqu, ztu, fu, rfl, rfl⟩ := p_10
      refine g_perm (ws1 := [(m0, oo 7 (fMo ra mm nf ti so ta go sl lo cn lx ly pm nqu)), (ra 37, aI E 169 mo), (ra 41, aI E 1200 ztu), (ra 39, aI E 576 zc)]) [1, 2, 3, 0] rfl (by decide) rfl ?_
      have hxu : xu = 0 ∨ xu = 1 := by rcases fu with ⟨q, -⟩ | ⟨q, -⟩ <;> omega
      refine g_if_ne (tgt := 152) (by unfold R32; omega) dX7_plans_138 rfl (fun hx1 => ?_) (fun hx1 => ?_)
      · obtain ⟨hUU, hLL, hz1, hn1⟩ : nU (tb mo) w h ∧ nL (tb mo) w h ∧ ztu = zt ∧ nqu = pi := by (rcases fu with ⟨q, -⟩ | ⟨-, q⟩; omega; exact q)
        refine g_as (ws1 := [(m0, oo 7 (fMo ra mm nf ti so ta go sl lo cn lx ly pm pi)), (ra 37, aI E 169 mo), (ra 41, aI E 1200 ztu), (ra 39, aI E 576 zc)]) ?_ (by rw [hn1]) rfl rfl
        refine g_as (ws1 := [(m0, oo 7 (fMo ra mm nf ti so ta go sl lo cn lx ly pm pi)), (ra 37, aI E 169 mo), (ra 41, aI E 1200 zt), (ra 39, aI E 576 zc)]) ?_ (by rw [hz1]) rfl rfl
        refine g_aload_n 1 dX7_plans_141 rfl rfl ?_
        refine g_iload_n 2 dX7_plans_142 rfl rfl ?_
        refine g_iload_n 3 dX7_plans_143 rfl rfl ?_
        refine g_iload_n 4 dX7_plans_144 rfl rfl ?_
        refine g_iload 5 dX7_plans_145 rfl ?_
        refine g_iload 0 dX7_plans_147 rfl ?_
        refine g_callV_v (n := 5) (As := [.int (iI l), .int (iI lw), .int (iI w), .int (iI h), .int (iI (tb mo w h))]) (wr := [(ra 39, aI E 576 zc)]) (C := RX7) [] (c_X7_wheels E m0 ra mm nf ti so ta go sl lo cn lx ly pm pi mo zt l lw w h (tb mo w h) qa qb Rs (by omega) (by omega) (by omega) (by exact hmo) (by exact hr) (by omega) (by rfl) (by exact hUU) (by exact hLL) (by exact hG) (by exact hB) (by omega)) [0, 1, 2] [3] 0 rfl rfl gX7_plans_X7_wheels rfl ⟨rfl, by decide +kernel⟩ ⟨by decide, by decide⟩ rfl rfl rfl rfl rfl (by decide) rfl (by decide) (by decide) (fun _ h => absurd h List.not_mem_nil) dX7_plans_149 rfl (Nat.le_of_ble_eq_true rfl) ⟨by decide, by decide⟩ (fun u p_11 => ?_)
        obtain ⟨nqp, ztp, fp, rfl⟩ := p_11
        refine g_perm (ws1 := [(m0, oo 7 (fMo ra mm nf ti so ta go sl lo cn lx ly pm nqp)), (ra 37, aI E 169 mo), (ra 41, aI E 1200 ztp), (ra 39, aI E 576 zc)]) [1, 2, 3, 0] rfl (by decide) rfl ?_
        exact g_vret hRet dX7_plans_152 ⟨nqp, pm, ztp, zc, (by first | (exfalso; omega) | (obtain ⟨C, hC1, hC2⟩ := fp; exact ⟨_, _, ⟨l, lw, w, h, Rs, rfl, Or.inr (Or.inl ⟨by omega, rfl, C, hC1, rfl⟩)⟩, hC2, hrc⟩) | (rcases fu with ⟨-, C, hC1, hC2⟩ | ⟨q, -⟩; exact ⟨_, _, ⟨l, lw, w, h, Rs, rfl, Or.inr (Or.inl ⟨by omega, rfl, C, hC1, rfl⟩)⟩, hC2, hrc⟩; omega) | (refine ⟨_, _, ⟨l, lw, w, h, Rs, rfl, Or.inl ⟨hm1, rfl, rfl⟩⟩, hr, ?_⟩; first | (rw [if_pos (by omega), if_pos (by omega)]; exact rep_push hrc _ _ _ _) | (rw [if_neg (by omega), if_neg (by omega)]; exact rep_push hrc _ _ _ _)) | (exact ⟨_, _, ⟨l, lw, w, h, Rs, rfl, Or.inr (Or.inr ⟨by omega, rfl, rfl⟩)⟩, hr, hrc⟩)), rfl⟩
      · exact g_vret hRet dX7_plans_152 ⟨nqu, pm, ztu, zc, (by first | (exfalso; omega) | (obtain ⟨C, hC1, hC2⟩ := fp; exact ⟨_, _, ⟨l, lw, w, h, Rs, rfl, Or.inr (Or.inl ⟨by omega, rfl, C, hC1, rfl⟩)⟩, hC2, hrc⟩) | (rcases fu with ⟨-, C, hC1, hC2⟩ | ⟨q, -⟩; exact ⟨_, _, ⟨l, lw, w, h, Rs, rfl, Or.inr (Or.inl ⟨by omega, rfl, C, hC1, rfl⟩)⟩, hC2, hrc⟩; omega) | (refine ⟨_, _, ⟨l, lw, w, h, Rs, rfl, Or.inl ⟨hm1, rfl, rfl⟩⟩, hr, ?_⟩; first | (rw [if_pos (by omega), if_pos (by omega)]; exact rep_push hrc _ _ _ _) | (rw [if_neg (by omega), if_neg (by omega)]; exact rep_push hrc _ _ _ _)) | (exact ⟨_, _, ⟨l, lw, w, h, Rs, rfl, Or.inr (Or.inr ⟨by omega, rfl, rfl⟩)⟩, hr, hrc⟩)), rfl⟩

set_option maxHeartbeats 4000000 in
set_option maxRecDepth 100000 in
theorem c_X7_layer (E : Ev) (m0 : Nat) (ra : Nat → Nat) (mm : Int) (nf : Int) (ti : Int) (so : Int) (ta : Int) (go : Int) (sl : Int) (lo : Int) (cn : Int) (lx : Int) (ly : Int) (pm : Int) (pi : Int) (mo : Int → Int) (zt : Int → Int) (zc : Int → Int) (qx : Int) (qy : Int) (qa : Int) (qb : Int) (h_qx : -2147483648 ≤ qx ∧ qx ≤ 2147483647) (h_qy : -2147483648 ≤ qy ∧ qy ≤ 2147483647) (h_qa : -2147483648 ≤ qa ∧ qa ≤ 2147483647) (h_qb : -2147483648 ≤ qb ∧ qb ≤ 2147483647) (hmo : ∀ k, 0 ≤ mo k ∧ mo k ≤ 144) : MI yX7_layer wsX7_layer ({ frames := 4, cells := 0, slots := 0, locals := 105 } : Room) E [] 0 0 [.ref m0, .int (iI qx), .int (iI qy), .int (iI qa), .int (iI qb)] [(m0, oo 7 (fMo ra mm nf ti so ta go sl lo cn lx ly pm pi)), (ra 37, aI E 169 mo), (ra 41, aI E 1200 zt), (ra 39, aI E 576 zc)] (fun r u => ∃ (x : Int), ∃ (lx' : Int), ∃ (ly' : Int), ∃ (pm' : Int), ∃ (pi' : Int), ∃ (mo' : Int → Int), ∃ (zt' : Int → Int), ∃ (zc' : Int → Int), sp_layer lx ly pm zc qx qy qa qb x lx' ly' pm' zc' ∧ (∀ k, 0 ≤ mo' k ∧ mo' k ≤ 144) ∧ r = iI x ∧ u = [(m0, oo 7 (fMo ra mm nf ti so ta go sl lo cn lx' ly' pm' pi')), (ra 37, aI E 169 mo'), (ra 41, aI E 1200 zt'), (ra 39, aI E 576 zc')]) := by
  refine MI.of (cc := cX7_layer) (maxL := 7) (own := RX7) (by decide) rfl rfl rfl (Nat.le_of_ble_eq_true rfl) [(0, .ref m0), (1, .int (iI qx)), (2, .int (iI qy)), (3, .int (iI qa)), (4, .int (iI qb))] rfl ?_
  intro X hin2 hRet
  refine g_iload_n 1 dX7_layer_0 rfl rfl ?_
  refine g_iconst dX7_layer_1 ?_
  refine g_bipush dX7_layer_2 rfl ?_
  refine g_callS_i (n := 3) (As := [.int (iI qx), .int (iI 1), .int (iI 12)]) (wr := [(m0, oo 7 (fMo ra mm nf ti so ta go sl lo cn lx ly pm pi)), (ra 37, aI E 169 mo), (ra 41, aI E 1200 zt), (ra 39, aI E 576 zc)]) [] (c_X7_in E qx 1 12 (by omega) (by omega) (by omega)) [] [0, 1, 2, 3] gX7_layer_X7_in rfl ⟨rfl, by decide +kernel⟩ ⟨by decide, by decide⟩ rfl rfl rfl rfl rfl (by decide) rfl (by decide) (by decide) (fun _ h => absurd h List.not_mem_nil) dX7_layer_4 rfl (Nat.le_of_ble_eq_true rfl) ⟨by decide, by decide⟩ (fun r u p_1 => ?_)
  obtain ⟨rfl, rfl⟩ := p_1
  refine g_perm (ws1 := [(m0, oo 7 (fMo ra mm nf ti so ta go sl lo cn lx ly pm pi)), (ra 37, aI E 169 mo), (ra 41, aI E 1200 zt), (ra 39, aI E 576 zc)]) [0, 1, 2, 3] rfl (by decide) rfl ?_
  refine g_if_eq_b (tgt := 41) dX7_layer_7 rfl (fun c_2 => ?_) (fun c_2 => ?_)
  · refine g_iload_n 2 dX7_layer_10 rfl rfl ?_
    refine g_iconst dX7_layer_11 ?_
    refine g_bipush dX7_layer_12 rfl ?_
    refine g_callS_i (n := 3) (As := [.int (iI qy), .int (iI 1), .int (iI 12)]) (wr := [(m0, oo 7 (fMo ra mm nf ti so ta go sl lo cn lx ly pm pi)), (ra 37, aI E 169 mo), (ra 41, aI E 1200 zt), (ra 39, aI E 576 zc)]) [] (c_X7_in E qy 1 12 (by omega) (by omega) (by omega)) [] [0, 1, 2, 3] gX7_layer_X7_in rfl ⟨rfl, by decide +kernel⟩ ⟨by decide, by decide⟩ rfl rfl rfl rfl rfl (by decide) rfl (by decide) (by decide) (fun _ h => absurd h List.not_mem_nil) dX7_layer_14 rfl (Nat.le_of_ble_eq_true rfl) ⟨by decide, by decide⟩ (fun r u p_3 => ?_)
    obtain ⟨rfl, rfl⟩ := p_3
    refine g_perm (ws1 := [(m0, oo 7 (fMo ra mm nf ti so ta go sl lo cn lx ly pm pi)), (ra 37, aI E 169 mo), (ra 41, aI E 1200 zt), (ra 39, aI E 576 zc)]) [0, 1, 2, 3] rfl (by decide) rfl ?_
    refine g_if_eq_b (tgt := 41) dX7_layer_17 rfl (fun c_4 => ?_) (fun c_4 => ?_)
    · refine g_iload_n 3 dX7_layer_20 rfl rfl ?_
      refine g_iconst dX7_layer_21 ?_
      refine g_bipush dX7_layer_22 rfl ?_
      refine g_callS_i (n := 3) (As := [.int (iI qa), .int (iI 1), .int (iI 12)]) (wr := [(m0, oo 7 (fMo ra mm nf ti so ta go sl lo cn lx ly pm pi)), (ra 37, aI E 169 mo), (ra 41, aI E 1200 zt), (ra 39, aI E 576 zc)]) [] (c_X7_in E qa 1 12 (by omega) (by omega) (by omega)) [] [0, 1, 2, 3] gX7_layer_X7_in rfl ⟨rfl, by decide +kernel⟩ ⟨by decide, by decide⟩ rfl rfl rfl rfl rfl (by decide) rfl (by decide) (by decide) (fun _ h => absurd h List.not_mem_nil) dX7_layer_24 rfl (Nat.le_of_ble_eq_true rfl) ⟨by decide, by decide⟩ (fun r u p_5 => ?_)
      obtain ⟨rfl, rfl⟩ := p_5
      refine g_perm (ws1 := [(m0, oo 7 (fMo ra mm nf ti so ta go sl lo cn lx ly pm pi)), (ra 37, aI E 169 mo), (ra 41, aI E 1200 zt), (ra 39, aI E 576 zc)]) [0, 1, 2, 3] rfl (by decide) rfl ?_
      refine g_if_eq_b (tgt := 41) dX7_layer_27 rfl (fun c_6 => ?_) (fun c_6 => ?_)
      · refine g_iload 4 dX7_layer_30 rfl ?_
        refine g_iconst dX7_layer_32 ?_
        refine g_bipush dX7_layer_33 rfl ?_
        refine g_callS_i (n := 3) (As := [.int (iI qb), .int (iI 1), .int (iI 12)]) (wr := [(m0, oo 7 (fMo ra mm nf ti so ta go sl lo cn lx ly pm pi)), (ra 37, aI E 169 mo), (ra 41, aI E 1200 zt), (ra 39, aI E 576 zc)]) [] (c_X7_in E qb 1 12 (by omega) (by omega) (by omega)) [] [0, 1, 2, 3] gX7_layer_X7_in rfl ⟨rfl, by decide +kernel⟩ ⟨by decide, by decide⟩ rfl rfl rfl rfl rfl (by decide) rfl (by decide) (by decide) (fun _ h => absurd h List.not_mem_nil) dX7_layer_35 rfl (Nat.le_of_ble_eq_true rfl) ⟨by decide, by decide⟩ (fun r u p_7 => ?_)
        obtain ⟨rfl, rfl⟩ := p_7
        refine g_perm (ws1 := [(m0, oo 7 (fMo ra mm nf ti so ta go sl lo cn lx ly pm pi)), (ra 37, aI E 169 mo), (ra 41, aI E 1200 zt), (ra 39, aI E 576 zc)]) [0, 1, 2, 3] rfl (by decide) rfl ?_
        refine g_if_ne_b (tgt := 43) dX7_layer_38 rfl (fun c_8 => ?_) (fun c_8 => ?_)
        · refine g_iconst dX7_layer_43 ?_
          refine g_istore (lv1 := [(5, .int (iI 1)), (0, .ref m0), (1, .int (iI qx)), (2, .int (iI qy)), (3, .int (iI qa)), (4, .int (iI qb))]) dX7_layer_44 (by decide) rfl ?_
          refine g_lv (lv1 := [(0, .ref m0), (1, .int (iI qx)), (2, .int (iI qy)), (3, .int (iI qa)), (4, .int (iI qb)), (5, .int (iI 1))]) [1, 2, 3, 4, 5, 0] rfl ?_
          have L46 : ∀ (nn : Nat) (w : Int) (f : Int → Int) (hw : 1 ≤ w ∧ w ≤ 13) (hf : ∀ k, 0 ≤ f k ∧ f k ≤ 144) (hT1 : pT qa qb (tb f) qx qy w 1) (hm : 14 - w < (nn : Int)), G X ({ frames := 4, cells := 0, slots := 0, locals := 105 } : Room) cX7_layer 7 RX7 wsX7_layer E [] 0 0 [(m0, oo 7 (fMo ra mm nf ti so ta go sl lo cn lx ly pm pi)), (ra 37, aI E 169 f), (ra 41, aI E 1200 zt), (ra 39, aI E 576 zc)] [(0, .ref m0), (1, .int (iI qx)), (2, .int (iI qy)), (3, .int (iI qa)), (4, .int (iI qb)), (5, .int (iI w))] 46 [] := by
            intro nn
            induction nn with
            | zero => intro w f hw hf hT1 hm; exfalso; omega
            | succ nn ih46 =>
              intro w f hw hf hT1 hm
              refine g_iload 5 dX7_layer_46 rfl ?_
              refine g_iload_n 1 dX7_layer_48 rfl rfl ?_
              refine g_icmp_gt (tgt := 97) (by unfold R32; omega) (by unfold R32; omega) dX7_layer_49 rfl (fun c_9 => ?_) (fun c_9 => ?_)
              · have hTT : gT qa qb (tb f) qx qy := pT_T (by omega) hT1
                refine g_aload_n 0 dX7_layer_97 rfl rfl ?_
                refine g_iload_n 1 dX7_layer_98 rfl rfl ?_
                refine g_put (C := RX7) (T := TX7) (N := 43) (ws1 := [(m0, oo 7 (fMo ra mm nf ti so ta go sl lo cn qx ly pm pi)), (ra 37, aI E 169 f), (ra 41, aI E 1200 zt), (ra 39, aI E 576 zc)]) 0 35 (fun _ h => List.mem_cons_of_mem _ (List.mem_append_right _ h)) tyX7 tyX7_ok nmX7 (List.mem_of_getElem? (i := 2) rfl) rfl rfl (by decide) rfl (tyX7_ok 35 (by decide)) rfl rfl (by first | decide | exact Nat.le_of_ble_eq_true rfl) dX7_layer_99 rfl rfl ?_
                refine g_aload_n 0 dX7_layer_102 rfl rfl ?_
                refine g_iload_n 2 dX7_layer_103 rfl rfl ?_
                refine g_put (C := RX7) (T := TX7) (N := 43) (ws1 := [(m0, oo 7 (fMo ra mm nf ti so ta go sl lo cn qx qy pm pi)), (ra 37, aI E 169 f), (ra 41, aI E 1200 zt), (ra 39, aI E 576 zc)]) 0 36 (fun _ h => List.mem_cons_of_mem _ (List.mem_append_right _ h)) tyX7 tyX7_ok nmX7 (List.mem_of_getElem? (i := 3) rfl) rfl rfl (by decide) rfl (tyX7_ok 36 (by decide)) rfl rfl (by first | decide | exact Nat.le_of_ble_eq_true rfl) dX7_layer_104 rfl rfl ?_
                refine g_aload_n 0 dX7_layer_107 rfl rfl ?_
                refine g_iconst dX7_layer_108 ?_
                refine g_put (C := RX7) (T := TX7) (N := 43) (ws1 := [(m0, oo 7 (fMo ra mm nf ti so ta go sl lo cn qx qy 0 pi)), (ra 37, aI E 169 f), (ra 41, aI E 1200 zt), (ra 39, aI E 576 zc)]) 0 38 (fun _ h => List.mem_cons_of_mem _ (List.mem_append_right _ h)) tyX7 tyX7_ok nmX7 (List.mem_of_getElem? (i := 4) rfl) rfl rfl (by decide) rfl (tyX7_ok 38 (by decide)) rfl rfl (by first | decide | exact Nat.le_of_ble_eq_true rfl) dX7_layer_109 rfl rfl ?_
                refine g_aload_n 0 dX7_layer_112 rfl rfl ?_
                refine g_iconst dX7_layer_113 ?_
                refine g_put (C := RX7) (T := TX7) (N := 43) (ws1 := [(m0, oo 7 (fMo ra mm nf ti so ta go sl lo cn qx qy 0 0)), (ra 37, aI E 169 f), (ra 41, aI E 1200 zt), (ra 39, aI E 576 zc)]) 0 40 (fun _ h => List.mem_cons_of_mem _ (List.mem_append_right _ h)) tyX7 tyX7_ok nmX7 (List.mem_of_getElem? (i := 5) rfl) rfl rfl (by decide) rfl (tyX7_ok 40 (by decide)) rfl rfl (by first | decide | exact Nat.le_of_ble_eq_true rfl) dX7_layer_114 rfl rfl ?_
                refine g_aload_n 0 dX7_layer_117 rfl rfl ?_
                refine g_iconst dX7_layer_118 ?_
                refine g_iconst dX7_layer_119 ?_
                refine g_iload_n 1 dX7_layer_120 rfl rfl ?_
                refine g_iload_n 2 dX7_layer_121 rfl rfl ?_
                refine g_callV_v (n := 4) (As := [.int (iI 0), .int (iI 0), .int (iI qx), .int (iI qy)]) (wr := [(ra 37, aI E 169 f), (ra 39, aI E 576 zc)]) (C := RX7) [] (c_X7_piles E m0 ra mm nf ti so ta go sl lo cn qx qy 0 0 zt 0 0 qx qy (by omega)) [0, 2] [1, 3] 0 rfl rfl gX7_layer_X7_piles rfl ⟨rfl, by decide +kernel⟩ ⟨by decide, by decide⟩ rfl rfl rfl rfl rfl (by decide) rfl (by decide) (by decide) (fun _ h => absurd h List.not_mem_nil) dX7_layer_122 rfl (Nat.le_of_ble_eq_true rfl) ⟨by decide, by decide⟩ (fun u p_10 => ?_)
                subst p_10
                refine g_perm (ws1 := [(m0, oo 7 (fMo ra mm nf ti so ta go sl lo cn qx qy 0 (0 + 1))), (ra 37, aI E 169 f), (ra 41, aI E 1200 (up (up (up (up zt (4 * 0) 0) (4 * 0 + 1) 0) (4 * 0 + 2) qx) (4 * 0 + 3) qy)), (ra 39, aI E 576 zc)]) [2, 0, 3, 1] rfl (by decide) rfl ?_
                refine g_lv (lv1 := [(0, .ref m0), (1, .int (iI qx)), (2, .int (iI qy)), (3, .int (iI qa)), (4, .int (iI qb))]) [0, 1, 2, 3, 4] rfl ?_
                have L125 : ∀ (nn : Nat) (n : Nat) (nq1 : Int) (np1 : Int) (zt1 : Int → Int) (zc1 : Int → Int) (L : List Qd) (Ps : List Qd) (hn1 : (n : Int) ≤ 288) (hr1 : rep zt1 nq1 L) (hc1 : rep zc1 np1 Ps) (hrun : runN qa qb (tb f) n [(0, 0, qx, qy)] [] L Ps) (hm : 288 - (n : Int) < (nn : Int)), G X ({ frames := 4, cells := 0, slots := 0, locals := 105 } : Room) cX7_layer 7 RX7 wsX7_layer E [] 0 0 [(m0, oo 7 (fMo ra mm nf ti so ta go sl lo cn qx qy np1 nq1)), (ra 37, aI E 169 f), (ra 41, aI E 1200 zt1), (ra 39, aI E 576 zc1)] [(0, .ref m0), (1, .int (iI qx)), (2, .int (iI qy)), (3, .int (iI qa)), (4, .int (iI qb))] 125 [] := by
                  intro nn
                  induction nn with
                  | zero => intro n nq1 np1 zt1 zc1 L Ps hn1 hr1 hc1 hrun hm; exfalso; omega
                  | succ nn ih125 =>
                    intro n nq1 np1 zt1 zc1 L Ps hn1 hr1 hc1 hrun hm
                    have hIv := Iv_r hTT (by omega) (by omega) (by omega) (by omega) n hrun
                    obtain ⟨I1, I2, I3, I4, I5, I6⟩ := hIv
                    have h144 := wh_144 (w := qx) (h := qy) (by omega) (by omega)
                    have hLl := rep_len hr1
                    have hPl := rep_len hc1
                    have hLA := len_ar I1
                    refine g_aload_n 0 dX7_layer_125 rfl rfl ?_
                    refine g_get (C := RX7) (T := TX7) (N := 43) 0 40 (fun _ h => List.mem_cons_of_mem _ (List.mem_append_right _ h)) (List.mem_of_getElem? (i := 5) rfl) rfl rfl (by decide) rfl rfl dX7_layer_126 ?_
                    refine g_if_le (tgt := 194) (by unfold R32; omega) dX7_layer_129 rfl (fun c_11 => ?_) (fun c_11 => ?_)
                    · refine g_aload_n 0 dX7_layer_194 rfl rfl ?_
                      refine g_get (C := RX7) (T := TX7) (N := 43) 0 38 (fun _ h => List.mem_cons_of_mem _ (List.mem_append_right _ h)) (List.mem_of_getElem? (i := 4) rfl) rfl rfl (by decide) rfl rfl dX7_layer_195 ?_
                      exact g_iret hRet dX7_layer_198 rfl ⟨np1, qx, qy, np1, nq1, f, zt1, zc1, (by unfold sp_layer; rw [if_neg (by omega)]; have hL0 : L = [] := List.eq_nil_of_length_eq_zero (by omega); subst hL0; exact ⟨rfl, rfl, rfl, Ps, ⟨tb f, n, hTT, hrun⟩, hc1⟩), (by exact hf), rfl, rfl⟩
                    · obtain ⟨R1, hL1, hR1⟩ := rep_pop hr1 (by omega)
                      have hq1 := I1 (q4 zt1 (nq1 - 1)) (by rw [hL1]; exact List.mem_cons_self)
                      unfold okQ q4 at hq1
                      simp only at hq1
                      have hsA : sumL ar L = zt1 (4 * (nq1 - 1) + 2) * zt1 (4 * (nq1 - 1) + 3) + sumL ar R1 := by rw [hL1]; rfl
                      have hRA := len_ar (L := R1) (fun q hq => I1 q (by rw [hL1]; exact List.mem_cons_of_mem _ hq))
                      have hRl := rep_len hR1
                      have hww := mul_ge (w := zt1 (4 * (nq1 - 1) + 2)) (h := zt1 (4 * (nq1 - 1) + 3)) (p := 1) (q := 1) (by omega) (by omega) (by omega) (by omega)
                      refine g_aload_n 0 dX7_layer_132 rfl rfl ?_
                      refine g_dup dX7_layer_133 rfl ?_
                      refine g_get (C := RX7) (T := TX7) (N := 43) 0 40 (fun _ h => List.mem_cons_of_mem _ (List.mem_append_right _ h)) (List.mem_of_getElem? (i := 5) rfl) rfl rfl (by decide) rfl rfl dX7_layer_134 ?_
                      refine g_iconst dX7_layer_137 ?_
                      refine g_isub dX7_layer_138 ?_
                      refine g_put (C := RX7) (T := TX7) (N := 43) (ws1 := [(m0, oo 7 (fMo ra mm nf ti so ta go sl lo cn qx qy np1 (nq1 - 1))), (ra 37, aI E 169 f), (ra 41, aI E 1200 zt1), (ra 39, aI E 576 zc1)]) 0 40 (fun _ h => List.mem_cons_of_mem _ (List.mem_append_right _ h)) tyX7 tyX7_ok nmX7 (List.mem_of_getElem? (i := 5) rfl) rfl rfl (by decide) rfl (tyX7_ok 40 (by decide)) rfl rfl (by first | decide | exact Nat.le_of_ble_eq_true rfl) dX7_layer_139 rfl rfl ?_
                      refine g_iconst dX7_layer_142 ?_
                      refine g_aload_n 0 dX7_layer_143 rfl rfl ?_
                      refine g_get (C := RX7) (T := TX7) (N := 43) 0 40 (fun _ h => List.mem_cons_of_mem _ (List.mem_append_right _ h)) (List.mem_of_getElem? (i := 5) rfl) rfl rfl (by decide) rfl rfl dX7_layer_144 ?_
                      refine g_imul dX7_layer_147 ?_
                      refine g_istore (lv1 := [(5, .int (iI (4 * (nq1 - 1)))), (0, .ref m0), (1, .int (iI qx)), (2, .int (iI qy)), (3, .int (iI qa)), (4, .int (iI qb))]) dX7_layer_148 (by decide) rfl ?_
                      refine g_aload_n 1 dX7_layer_150 rfl rfl ?_
                      refine g_aload_n 1 dX7_layer_151 rfl rfl ?_
                      refine g_get (C := RX7) (T := TX7) (N := 43) 0 41 (fun _ h => List.mem_cons_of_mem _ (List.mem_append_right _ h)) (List.mem_of_getElem? (i := 6) rfl) rfl rfl (by decide) rfl rfl dX7_layer_152 ?_
                      refine g_iload 0 dX7_layer_155 rfl ?_
                      refine g_iald 2 dX7_layer_157 rfl (by decide) (by omega) (by omega) ?_
                      refine g_aload_n 1 dX7_layer_158 rfl rfl ?_
                      refine g_get (C := RX7) (T := TX7) (N := 43) 0 41 (fun _ h => List.mem_cons_of_mem _ (List.mem_append_right _ h)) (List.mem_of_getElem? (i := 6) rfl) rfl rfl (by decide) rfl rfl dX7_layer_159 ?_
                      refine g_iload 0 dX7_layer_162 rfl ?_
                      refine g_iconst dX7_layer_164 ?_
                      refine g_iadd dX7_layer_165 ?_
                      refine g_iald 2 dX7_layer_166 rfl (by decide) (by omega) (by omega) ?_
                      refine g_aload_n 1 dX7_layer_167 rfl rfl ?_
                      refine g_get (C := RX7) (T := TX7) (N := 43) 0 41 (fun _ h => List.mem_cons_of_mem _ (List.mem_append_right _ h)) (List.mem_of_getElem? (i := 6) rfl) rfl rfl (by decide) rfl rfl dX7_layer_168 ?_
                      refine g_iload 0 dX7_layer_171 rfl ?_
                      refine g_iconst dX7_layer_173 ?_
                      refine g_iadd dX7_layer_174 ?_
                      refine g_iald 2 dX7_layer_175 rfl (by decide) (by omega) (by omega) ?_
                      refine g_aload_n 1 dX7_layer_176 rfl rfl ?_
                      refine g_get (C := RX7) (T := TX7) (N := 43) 0 41 (fun _ h => List.mem_cons_of_mem _ (List.mem_append_right _ h)) (List.mem_of_getElem? (i := 6) rfl) rfl rfl (by decide) rfl rfl dX7_layer_177 ?_
                      refine g_iload 0 dX7_layer_180 rfl ?_
                      refine g_iconst dX7_layer_182 ?_
                      refine g_iadd dX7_layer_183 ?_
                      refine g_iald 2 dX7_layer_184 rfl (by decide) (by omega) (by omega) ?_
                      refine g_iload_n 4 dX7_layer_185 rfl rfl ?_
                      refine g_iload 5 dX7_layer_186 rfl ?_
                      refine g_callV_v (n := 6) (As := [.int (iI (zt1 (4 * (nq1 - 1)))), .int (iI (zt1 ((4 * (nq1 - 1)) + 1))), .int (iI (zt1 ((4 * (nq1 - 1)) + 2))), .int (iI (zt1 ((4 * (nq1 - 1)) + 3))), .int (iI qa), .int (iI qb)]) (wr := []) (C := RX7) [] (c_X7_plans E m0 ra mm nf ti so ta go sl lo cn qx qy np1 (nq1 - 1) f zt1 zc1 (zt1 (4 * (nq1 - 1))) (zt1 ((4 * (nq1 - 1)) + 1)) (zt1 ((4 * (nq1 - 1)) + 2)) (zt1 ((4 * (nq1 - 1)) + 3)) qa qb R1 Ps (by omega) (by omega) (by exact hf) (by exact hTT) (by omega) (by omega) (by exact hR1) (by omega) (by exact hc1) (by omega)) [0, 1, 2, 3] [] 0 rfl rfl gX7_layer_X7_plans rfl ⟨rfl, by decide +kernel⟩ ⟨by decide, by decide⟩ rfl rfl rfl rfl rfl (by decide) rfl (by decide) (by decide) (fun _ h => absurd h List.not_mem_nil) dX7_layer_188 rfl (Nat.le_of_ble_eq_true rfl) ⟨by decide, by decide⟩ (fun u p_12 => ?_)
                      obtain ⟨nq2, np2, zt2, zc2, fp, rfl⟩ := p_12
                      obtain ⟨L2, P2, hs2, hr2, hc2⟩ := fp
                      refine g_goto (tgt := 125) dX7_layer_191 rfl ?_
                      refine g_lv (lv1 := [(0, .ref m0), (1, .int (iI qx)), (2, .int (iI qy)), (3, .int (iI qa)), (4, .int (iI qb))]) [1, 2, 3, 4, 5] rfl ?_
                      exact ih125 (n + 1) nq2 np2 zt2 zc2 L2 P2 (by omega) (by exact hr2) (by exact hc2) (by exact ⟨L, Ps, hrun, by rw [hL1]; exact hs2⟩) (by omega)
                exact L125 _ 0 (0 + 1) 0 (up (up (up (up zt (4 * 0) 0) (4 * 0 + 1) 0) (4 * 0 + 2) qx) (4 * 0 + 3) qy) zc ([(0, 0, qx, qy)]) ([]) (by omega) (by exact rep_push (n := 0) (L := []) rfl 0 0 qx qy) (by rfl) (by exact ⟨rfl, rfl⟩) (lt_nn _)
              · refine g_iconst dX7_layer_52 ?_
                refine g_istore (lv1 := [(6, .int (iI 1)), (0, .ref m0), (1, .int (iI qx)), (2, .int (iI qy)), (3, .int (iI qa)), (4, .int (iI qb)), (5, .int (iI w))]) dX7_layer_53 (by decide) rfl ?_
                refine g_lv (lv1 := [(0, .ref m0), (1, .int (iI qx)), (2, .int (iI qy)), (3, .int (iI qa)), (4, .int (iI qb)), (5, .int (iI w)), (6, .int (iI 1))]) [1, 2, 3, 4, 5, 6, 0] rfl ?_
                have L55 : ∀ (nn : Nat) (h : Int) (g : Int → Int) (hh : 1 ≤ h ∧ h ≤ 13) (hg : ∀ k, 0 ≤ g k ∧ g k ≤ 144) (hT2 : pT qa qb (tb g) qx qy w h) (hm : 14 - h < (nn : Int)), G X ({ frames := 4, cells := 0, slots := 0, locals := 105 } : Room) cX7_layer 7 RX7 wsX7_layer E [] 0 0 [(m0, oo 7 (fMo ra mm nf ti so ta go sl lo cn lx ly pm pi)), (ra 37, aI E 169 g), (ra 41, aI E 1200 zt), (ra 39, aI E 576 zc)] [(0, .ref m0), (1, .int (iI qx)), (2, .int (iI qy)), (3, .int (iI qa)), (4, .int (iI qb)), (5, .int (iI w)), (6, .int (iI h))] 55 [] := by
                  intro nn
                  induction nn with
                  | zero => intro h g hh hg hT2 hm; exfalso; omega
                  | succ nn ih55 =>
                    intro h g hh hg hT2 hm
                    refine g_iload 6 dX7_layer_55 rfl ?_
                    refine g_iload_n 2 dX7_layer_57 rfl rfl ?_
                    refine g_icmp_gt (tgt := 91) (by unfold R32; omega) (by unfold R32; omega) dX7_layer_58 rfl (fun c_13 => ?_) (fun c_13 => ?_)
                    · refine g_iinc (lv1 := [(5, .int (iI (w + 1))), (0, .ref m0), (1, .int (iI qx)), (2, .int (iI qy)), (3, .int (iI qa)), (4, .int (iI qb)), (6, .int (iI h))]) 5 dX7_layer_91 rfl (by decide) rfl ?_
                      refine g_goto (tgt := 46) dX7_layer_94 rfl ?_
                      refine g_lv (lv1 := [(0, .ref m0), (1, .int (iI qx)), (2, .int (iI qy)), (3, .int (iI qa)), (4, .int (iI qb)), (5, .int (iI (w + 1)))]) [1, 2, 3, 4, 5, 0] rfl ?_
                      exact ih46 (w + 1) g (by omega) (by exact hg) (by exact pT_r (by omega) hT2) (by omega)
                    · refine g_aload_n 0 dX7_layer_61 rfl rfl ?_
                      refine g_get (C := RX7) (T := TX7) (N := 43) 0 37 (fun _ h => List.mem_cons_of_mem _ (List.mem_append_right _ h)) (List.mem_of_getElem? (i := 1) rfl) rfl rfl (by decide) rfl rfl dX7_layer_62 ?_
                      refine g_bipush dX7_layer_65 rfl ?_
                      refine g_iload 5 dX7_layer_67 rfl ?_
                      refine g_imul dX7_layer_69 ?_
                      refine g_iload 6 dX7_layer_70 rfl ?_
                      refine g_iadd dX7_layer_72 ?_
                      refine g_aload_n 0 dX7_layer_73 rfl rfl ?_
                      refine g_iload 5 dX7_layer_74 rfl ?_
                      refine g_iload 6 dX7_layer_76 rfl ?_
                      refine g_iload_n 3 dX7_layer_78 rfl rfl ?_
                      refine g_iload 4 dX7_layer_79 rfl ?_
                      refine g_callV_i (n := 4) (As := [.int (iI w), .int (iI h), .int (iI qa), .int (iI qb)]) (wr := [(ra 41, aI E 1200 zt), (ra 39, aI E 576 zc)]) (C := RX7) [.int (iI ((13 * w) + h)), .ref (ra 37)] (c_X7_best E m0 ra mm nf ti so ta go sl lo cn lx ly pm pi g w h qa qb (by omega) (by omega) (by omega) (by exact hg)) [0, 1] [2, 3] 0 rfl rfl gX7_layer_X7_best rfl ⟨rfl, by decide +kernel⟩ ⟨by decide, by decide⟩ rfl rfl rfl rfl rfl (by decide) rfl (by decide) (by decide) (fun _ h => absurd h List.not_mem_nil) dX7_layer_81 rfl (Nat.le_of_ble_eq_true rfl) ⟨by decide, by decide⟩ (fun r u p_14 => ?_)
                      obtain ⟨vm, fm, rfl, rfl⟩ := p_14
                      refine g_perm (ws1 := [(m0, oo 7 (fMo ra mm nf ti so ta go sl lo cn lx ly pm pi)), (ra 37, aI E 169 g), (ra 41, aI E 1200 zt), (ra 39, aI E 576 zc)]) [2, 3, 0, 1] rfl (by decide) rfl ?_
                      have hvm := isB_144 (show 1 ≤ qa by omega) (show 1 ≤ qb by omega) (by omega) (by omega) fm (pT_g hT2 (by omega) (by omega))
                      refine g_iast (ws1 := [(m0, oo 7 (fMo ra mm nf ti so ta go sl lo cn lx ly pm pi)), (ra 37, aI E 169 (up g ((13 * w) + h) vm)), (ra 41, aI E 1200 zt), (ra 39, aI E 576 zc)]) 1 dX7_layer_84 rfl rfl (by decide) (by omega) (by omega) ?_
                      refine g_iinc (lv1 := [(6, .int (iI (h + 1))), (0, .ref m0), (1, .int (iI qx)), (2, .int (iI qy)), (3, .int (iI qa)), (4, .int (iI qb)), (5, .int (iI w))]) 6 dX7_layer_85 rfl (by decide) rfl ?_
                      refine g_goto (tgt := 55) dX7_layer_88 rfl ?_
                      refine g_lv (lv1 := [(0, .ref m0), (1, .int (iI qx)), (2, .int (iI qy)), (3, .int (iI qa)), (4, .int (iI qb)), (5, .int (iI w)), (6, .int (iI (h + 1)))]) [1, 2, 3, 4, 5, 6, 0] rfl ?_
                      exact ih55 (h + 1) (up g ((13 * w) + h) vm) (by omega) (by intro k2; have q9 := hg k2; unfold up; split <;> omega) (by exact pT_s (by omega) hT2 (by omega) (by omega) (by omega) (by omega) fm) (by omega)
                exact L55 _ 1 f (by omega) (by exact hf) (by exact hT1) (lt_nn _)
          exact L46 _ 1 mo (by omega) (by exact hmo) (by exact pT_0) (lt_nn _)
        · refine g_iconst dX7_layer_41 ?_
          exact g_iret hRet dX7_layer_42 rfl ⟨(-1), lx, ly, pm, pi, mo, zt, zc, (by unfold sp_layer; rw [if_pos (by omega)]; exact ⟨rfl, rfl, rfl, rfl, rfl⟩), (by exact hmo), rfl, rfl⟩
      · refine g_iconst dX7_layer_41 ?_
        exact g_iret hRet dX7_layer_42 rfl ⟨(-1), lx, ly, pm, pi, mo, zt, zc, (by unfold sp_layer; rw [if_pos (by omega)]; exact ⟨rfl, rfl, rfl, rfl, rfl⟩), (by exact hmo), rfl, rfl⟩
    · refine g_iconst dX7_layer_41 ?_
      exact g_iret hRet dX7_layer_42 rfl ⟨(-1), lx, ly, pm, pi, mo, zt, zc, (by unfold sp_layer; rw [if_pos (by omega)]; exact ⟨rfl, rfl, rfl, rfl, rfl⟩), (by exact hmo), rfl, rfl⟩
  · refine g_iconst dX7_layer_41 ?_
    exact g_iret hRet dX7_layer_42 rfl ⟨(-1), lx, ly, pm, pi, mo, zt, zc, (by unfold sp_layer; rw [if_pos (by omega)]; exact ⟨rfl, rfl, rfl, rfl, rfl⟩), (by exact hmo), rfl, rfl⟩

set_option maxHeartbeats 4000000 in
set_option maxRecDepth 100000 in
theorem c_X7_planned (E : Ev) (m0 : Nat) (ra : Nat → Nat) (mm : Int) (nf : Int) (ti : Int) (so : Int) (ta : Int) (go : Int) (sl : Int) (lo : Int) (cn : Int) (lx : Int) (ly : Int) (pm : Int) (pi : Int) (zc : Int → Int) (i : Int) (what : Int) (h_i : -2147483648 ≤ i ∧ i ≤ 2147483647) (h_what : -2147483648 ≤ what ∧ what ≤ 2147483647) (hlx : 0 ≤ lx ∧ lx ≤ 12) (hpm : 0 ≤ pm ∧ pm ≤ 144) : MI yX7_planned wsX7_planned ({ frames := 1, cells := 0, slots := 0, locals := 22 } : Room) E [] 0 0 [.ref m0, .int (iI i), .int (iI what)] [(m0, oo 7 (fMo ra mm nf ti so ta go sl lo cn lx ly pm pi)), (ra 39, aI E 576 zc)] (fun r u => r = iI (f_planned lx pm zc i what) ∧ u = [(m0, oo 7 (fMo ra mm nf ti so ta go sl lo cn lx ly pm pi)), (ra 39, aI E 576 zc)]) := by
  refine MI.of (cc := cX7_planned) (maxL := 3) (own := RX7) (by decide) rfl rfl rfl (Nat.le_of_ble_eq_true rfl) [(0, .ref m0), (1, .int (iI i)), (2, .int (iI what))] rfl ?_
  intro X hin2 hRet
  refine g_iload_n 1 dX7_planned_0 rfl rfl ?_
  refine g_if_lt (tgt := 13) (by unfold R32; omega) dX7_planned_1 rfl (fun c_1 => ?_) (fun c_1 => ?_)
  · refine g_iconst dX7_planned_13 ?_
    exact g_iret hRet dX7_planned_14 rfl ⟨(congrArg iI (by unfold f_planned; first | (rw [if_pos (by omega)]; done) | (rw [if_neg (by omega), if_pos (by omega)]; done) | (rw [if_neg (by omega), if_neg (by omega), if_pos (by omega)]; done) | (rw [if_neg (by omega), if_neg (by omega), if_neg (by omega)]; done))), rfl⟩
  · refine g_iload_n 2 dX7_planned_4 rfl rfl ?_
    refine g_iconst dX7_planned_5 ?_
    refine g_iconst dX7_planned_6 ?_
    refine g_callS_i (n := 3) (As := [.int (iI what), .int (iI 0), .int (iI 3)]) (wr := [(m0, oo 7 (fMo ra mm nf ti so ta go sl lo cn lx ly pm pi)), (ra 39, aI E 576 zc)]) [] (c_X7_in E what 0 3 (by omega) (by omega) (by omega)) [] [0, 1] gX7_planned_X7_in rfl ⟨rfl, by decide +kernel⟩ ⟨by decide, by decide⟩ rfl rfl rfl rfl rfl (by decide) rfl (by decide) (by decide) (fun _ h => absurd h List.not_mem_nil) dX7_planned_7 rfl (Nat.le_of_ble_eq_true rfl) ⟨by decide, by decide⟩ (fun r u p_2 => ?_)
    obtain ⟨rfl, rfl⟩ := p_2
    refine g_perm (ws1 := [(m0, oo 7 (fMo ra mm nf ti so ta go sl lo cn lx ly pm pi)), (ra 39, aI E 576 zc)]) [0, 1] rfl (by decide) rfl ?_
    refine g_if_ne_b (tgt := 15) dX7_planned_10 rfl (fun c_3 => ?_) (fun c_3 => ?_)
    · refine g_aload_n 0 dX7_planned_15 rfl rfl ?_
      refine g_get (C := RX7) (T := TX7) (N := 43) 0 35 (fun _ h => List.mem_cons_of_mem _ (List.mem_append_right _ h)) (List.mem_of_getElem? (i := 1) rfl) rfl rfl (by decide) rfl rfl dX7_planned_16 ?_
      refine g_if_ne (tgt := 25) (by unfold R32; omega) dX7_planned_19 rfl (fun c_4 => ?_) (fun c_4 => ?_)
      · refine g_bipush dX7_planned_22 rfl ?_
        exact g_iret hRet dX7_planned_24 rfl ⟨(congrArg iI (by unfold f_planned; first | (rw [if_pos (by omega)]; done) | (rw [if_neg (by omega), if_pos (by omega)]; done) | (rw [if_neg (by omega), if_neg (by omega), if_pos (by omega)]; done) | (rw [if_neg (by omega), if_neg (by omega), if_neg (by omega)]; done))), rfl⟩
      · refine g_iload_n 1 dX7_planned_25 rfl rfl ?_
        refine g_aload_n 0 dX7_planned_26 rfl rfl ?_
        refine g_get (C := RX7) (T := TX7) (N := 43) 0 38 (fun _ h => List.mem_cons_of_mem _ (List.mem_append_right _ h)) (List.mem_of_getElem? (i := 2) rfl) rfl rfl (by decide) rfl rfl dX7_planned_27 ?_
        refine g_icmp_ge (tgt := 46) (by unfold R32; omega) (by unfold R32; omega) dX7_planned_30 rfl (fun c_5 => ?_) (fun c_5 => ?_)
        · refine g_bipush dX7_planned_46 rfl ?_
          exact g_iret hRet dX7_planned_48 rfl ⟨(congrArg iI (by unfold f_planned; first | (rw [if_pos (by omega)]; done) | (rw [if_neg (by omega), if_pos (by omega)]; done) | (rw [if_neg (by omega), if_neg (by omega), if_pos (by omega)]; done) | (rw [if_neg (by omega), if_neg (by omega), if_neg (by omega)]; done))), rfl⟩
        · refine g_aload_n 0 dX7_planned_33 rfl rfl ?_
          refine g_get (C := RX7) (T := TX7) (N := 43) 0 39 (fun _ h => List.mem_cons_of_mem _ (List.mem_append_right _ h)) (List.mem_of_getElem? (i := 3) rfl) rfl rfl (by decide) rfl rfl dX7_planned_34 ?_
          refine g_iconst dX7_planned_37 ?_
          refine g_iload_n 1 dX7_planned_38 rfl rfl ?_
          refine g_imul dX7_planned_39 ?_
          refine g_iload_n 2 dX7_planned_40 rfl rfl ?_
          refine g_iadd dX7_planned_41 ?_
          refine g_iald 1 dX7_planned_42 rfl (by decide) (by omega) (by omega) ?_
          refine g_goto (tgt := 48) dX7_planned_43 rfl ?_
          exact g_iret hRet dX7_planned_48 rfl ⟨(congrArg iI (by unfold f_planned; first | (rw [if_pos (by omega)]; done) | (rw [if_neg (by omega), if_pos (by omega)]; done) | (rw [if_neg (by omega), if_neg (by omega), if_pos (by omega)]; done) | (rw [if_neg (by omega), if_neg (by omega), if_neg (by omega)]; done))), rfl⟩
    · refine g_iconst dX7_planned_13 ?_
      exact g_iret hRet dX7_planned_14 rfl ⟨(congrArg iI (by unfold f_planned; first | (rw [if_pos (by omega)]; done) | (rw [if_neg (by omega), if_pos (by omega)]; done) | (rw [if_neg (by omega), if_neg (by omega), if_pos (by omega)]; done) | (rw [if_neg (by omega), if_neg (by omega), if_neg (by omega)]; done))), rfl⟩

end RLAY
