section RTOUR
set_option maxHeartbeats 4000000 in
set_option maxRecDepth 100000 in
theorem c_X7_change (E : Ev) (m0 : Nat) (ra : Nat → Nat) (mm : Int) (nf : Int) (ti : Int) (so : Int) (ta : Int) (go : Int) (sl : Int) (lo : Int) (cn : Int) (lx : Int) (ly : Int) (pm : Int) (pi : Int) (ch : Int → Int) (a : Int) (b : Int) (v : Int) (hcn : 0 ≤ cn ∧ cn ≤ 200) (hch : ∀ k, 0 ≤ ch k ∧ ch k ≤ 500) (h_a : -2147483648 ≤ a ∧ a ≤ 2147483647) (h_b : -2147483648 ≤ b ∧ b ≤ 2147483647) (h_v : -2147483648 ≤ v ∧ v ≤ 2147483647) : MI yX7_change wsX7_change ({ frames := 1, cells := 0, slots := 0, locals := 22 } : Room) E [] 0 0 [.ref m0, .int (iI a), .int (iI b), .int (iI v)] [(m0, oo 7 (fMo ra mm nf ti so ta go sl lo cn lx ly pm pi)), (ra 33, aI E 36 ch)] (fun r u => ∃ (x : Int), ∃ (ch' : Int → Int), sp_change ch a b v x ch' ∧ r = iI x ∧ u = [(m0, oo 7 (fMo ra mm nf ti so ta go sl lo cn lx ly pm pi)), (ra 33, aI E 36 ch')]) := by
  refine MI.of (cc := cX7_change) (maxL := 5) (own := RX7) (by decide) rfl rfl rfl (Nat.le_of_ble_eq_true rfl) [(0, .ref m0), (1, .int (iI a)), (2, .int (iI b)), (3, .int (iI v))] rfl ?_
  intro X hin2 hRet
  refine g_iload_n 1 dX7_change_0 rfl rfl ?_
  refine g_iconst dX7_change_1 ?_
  refine g_iconst dX7_change_2 ?_
  refine g_callS_i (n := 3) (As := [.int (iI a), .int (iI 0), .int (iI 5)]) (wr := [(m0, oo 7 (fMo ra mm nf ti so ta go sl lo cn lx ly pm pi)), (ra 33, aI E 36 ch)]) [] (c_X7_in E a 0 5 (by omega) (by omega) (by omega)) [] [0, 1] gX7_change_X7_in rfl ⟨rfl, by decide +kernel⟩ ⟨by decide, by decide⟩ rfl rfl rfl rfl rfl (by decide) rfl (by decide) (by decide) (fun _ h => absurd h List.not_mem_nil) dX7_change_3 rfl (Nat.le_of_ble_eq_true rfl) ⟨by decide, by decide⟩ (fun r u p_1 => ?_)
  obtain ⟨rfl, rfl⟩ := p_1
  refine g_perm (ws1 := [(m0, oo 7 (fMo ra mm nf ti so ta go sl lo cn lx ly pm pi)), (ra 33, aI E 36 ch)]) [0, 1] rfl (by decide) rfl ?_
  refine g_if_eq_b (tgt := 34) dX7_change_6 rfl (fun c_2 => ?_) (fun c_2 => ?_)
  · refine g_iload_n 2 dX7_change_9 rfl rfl ?_
    refine g_iconst dX7_change_10 ?_
    refine g_iconst dX7_change_11 ?_
    refine g_callS_i (n := 3) (As := [.int (iI b), .int (iI 0), .int (iI 5)]) (wr := [(m0, oo 7 (fMo ra mm nf ti so ta go sl lo cn lx ly pm pi)), (ra 33, aI E 36 ch)]) [] (c_X7_in E b 0 5 (by omega) (by omega) (by omega)) [] [0, 1] gX7_change_X7_in rfl ⟨rfl, by decide +kernel⟩ ⟨by decide, by decide⟩ rfl rfl rfl rfl rfl (by decide) rfl (by decide) (by decide) (fun _ h => absurd h List.not_mem_nil) dX7_change_12 rfl (Nat.le_of_ble_eq_true rfl) ⟨by decide, by decide⟩ (fun r u p_3 => ?_)
    obtain ⟨rfl, rfl⟩ := p_3
    refine g_perm (ws1 := [(m0, oo 7 (fMo ra mm nf ti so ta go sl lo cn lx ly pm pi)), (ra 33, aI E 36 ch)]) [0, 1] rfl (by decide) rfl ?_
    refine g_if_eq_b (tgt := 34) dX7_change_15 rfl (fun c_4 => ?_) (fun c_4 => ?_)
    · refine g_iload_n 1 dX7_change_18 rfl rfl ?_
      refine g_iload_n 2 dX7_change_19 rfl rfl ?_
      refine g_icmp_eq (tgt := 34) (by unfold R32; omega) (by unfold R32; omega) dX7_change_20 rfl (fun c_5 => ?_) (fun c_5 => ?_)
      · refine g_iconst dX7_change_34 ?_
        exact g_iret hRet dX7_change_35 rfl ⟨(-1), ch, (by unfold sp_change; rw [if_pos (by omega)]; exact ⟨rfl, rfl⟩), rfl, rfl⟩
      · refine g_iload_n 3 dX7_change_23 rfl rfl ?_
        refine g_iconst dX7_change_24 ?_
        refine g_sipush dX7_change_25 rfl ?_
        refine g_callS_i (n := 3) (As := [.int (iI v), .int (iI 0), .int (iI 500)]) (wr := [(m0, oo 7 (fMo ra mm nf ti so ta go sl lo cn lx ly pm pi)), (ra 33, aI E 36 ch)]) [] (c_X7_in E v 0 500 (by omega) (by omega) (by omega)) [] [0, 1] gX7_change_X7_in rfl ⟨rfl, by decide +kernel⟩ ⟨by decide, by decide⟩ rfl rfl rfl rfl rfl (by decide) rfl (by decide) (by decide) (fun _ h => absurd h List.not_mem_nil) dX7_change_28 rfl (Nat.le_of_ble_eq_true rfl) ⟨by decide, by decide⟩ (fun r u p_6 => ?_)
        obtain ⟨rfl, rfl⟩ := p_6
        refine g_perm (ws1 := [(m0, oo 7 (fMo ra mm nf ti so ta go sl lo cn lx ly pm pi)), (ra 33, aI E 36 ch)]) [0, 1] rfl (by decide) rfl ?_
        refine g_if_ne_b (tgt := 36) dX7_change_31 rfl (fun c_7 => ?_) (fun c_7 => ?_)
        · refine g_aload_n 0 dX7_change_36 rfl rfl ?_
          refine g_get (C := RX7) (T := TX7) (N := 43) 0 33 (fun _ h => List.mem_cons_of_mem _ (List.mem_append_right _ h)) (List.mem_of_getElem? (i := 1) rfl) rfl rfl (by decide) rfl rfl dX7_change_37 ?_
          refine g_bipush dX7_change_40 rfl ?_
          refine g_iload_n 1 dX7_change_42 rfl rfl ?_
          refine g_imul dX7_change_43 ?_
          refine g_iload_n 2 dX7_change_44 rfl rfl ?_
          refine g_iadd dX7_change_45 ?_
          refine g_iald 1 dX7_change_46 rfl (by decide) (by omega) (by omega) ?_
          have q_8 := hch ((6 * a) + b)
          refine g_istore (lv1 := [(4, .int (iI (ch ((6 * a) + b)))), (0, .ref m0), (1, .int (iI a)), (2, .int (iI b)), (3, .int (iI v))]) dX7_change_47 (by decide) rfl ?_
          refine g_aload_n 1 dX7_change_49 rfl rfl ?_
          refine g_get (C := RX7) (T := TX7) (N := 43) 0 33 (fun _ h => List.mem_cons_of_mem _ (List.mem_append_right _ h)) (List.mem_of_getElem? (i := 1) rfl) rfl rfl (by decide) rfl rfl dX7_change_50 ?_
          refine g_bipush dX7_change_53 rfl ?_
          refine g_iload_n 2 dX7_change_55 rfl rfl ?_
          refine g_imul dX7_change_56 ?_
          refine g_iload_n 3 dX7_change_57 rfl rfl ?_
          refine g_iadd dX7_change_58 ?_
          refine g_iload_n 4 dX7_change_59 rfl rfl ?_
          refine g_iast (ws1 := [(m0, oo 7 (fMo ra mm nf ti so ta go sl lo cn lx ly pm pi)), (ra 33, aI E 36 (up ch ((6 * a) + b) v))]) 1 dX7_change_60 rfl rfl (by decide) (by omega) (by omega) ?_
          refine g_iload 0 dX7_change_61 rfl ?_
          exact g_iret hRet dX7_change_63 rfl ⟨(ch ((6 * a) + b)), (up ch ((6 * a) + b) v), (by unfold sp_change; rw [if_neg (by omega)]; exact ⟨rfl, rfl⟩), rfl, rfl⟩
        · refine g_iconst dX7_change_34 ?_
          exact g_iret hRet dX7_change_35 rfl ⟨(-1), ch, (by unfold sp_change; rw [if_pos (by omega)]; exact ⟨rfl, rfl⟩), rfl, rfl⟩
    · refine g_iconst dX7_change_34 ?_
      exact g_iret hRet dX7_change_35 rfl ⟨(-1), ch, (by unfold sp_change; rw [if_pos (by omega)]; exact ⟨rfl, rfl⟩), rfl, rfl⟩
  · refine g_iconst dX7_change_34 ?_
    exact g_iret hRet dX7_change_35 rfl ⟨(-1), ch, (by unfold sp_change; rw [if_pos (by omega)]; exact ⟨rfl, rfl⟩), rfl, rfl⟩

set_option maxHeartbeats 4000000 in
set_option maxRecDepth 100000 in
theorem c_X7_stain (E : Ev) (m0 : Nat) (ra : Nat → Nat) (mm : Int) (nf : Int) (ti : Int) (so : Int) (ta : Int) (go : Int) (sl : Int) (lo : Int) (cn : Int) (lx : Int) (ly : Int) (pm : Int) (pi : Int) (sn : Int → Int) (k : Int) (v : Int) (hcn : 0 ≤ cn ∧ cn ≤ 200) (hsn : ∀ k, 0 ≤ sn k ∧ sn k ≤ 3) (h_k : -2147483648 ≤ k ∧ k ≤ 2147483647) (h_v : -2147483648 ≤ v ∧ v ≤ 2147483647) : MI yX7_stain wsX7_stain ({ frames := 1, cells := 0, slots := 0, locals := 22 } : Room) E [] 0 0 [.ref m0, .int (iI k), .int (iI v)] [(m0, oo 7 (fMo ra mm nf ti so ta go sl lo cn lx ly pm pi)), (ra 34, aI E 6 sn)] (fun r u => ∃ (x : Int), ∃ (sn' : Int → Int), sp_stain sn k v x sn' ∧ r = iI x ∧ u = [(m0, oo 7 (fMo ra mm nf ti so ta go sl lo cn lx ly pm pi)), (ra 34, aI E 6 sn')]) := by
  refine MI.of (cc := cX7_stain) (maxL := 4) (own := RX7) (by decide) rfl rfl rfl (Nat.le_of_ble_eq_true rfl) [(0, .ref m0), (1, .int (iI k)), (2, .int (iI v))] rfl ?_
  intro X hin2 hRet
  refine g_iload_n 1 dX7_stain_0 rfl rfl ?_
  refine g_iconst dX7_stain_1 ?_
  refine g_iconst dX7_stain_2 ?_
  refine g_callS_i (n := 3) (As := [.int (iI k), .int (iI 0), .int (iI 5)]) (wr := [(m0, oo 7 (fMo ra mm nf ti so ta go sl lo cn lx ly pm pi)), (ra 34, aI E 6 sn)]) [] (c_X7_in E k 0 5 (by omega) (by omega) (by omega)) [] [0, 1] gX7_stain_X7_in rfl ⟨rfl, by decide +kernel⟩ ⟨by decide, by decide⟩ rfl rfl rfl rfl rfl (by decide) rfl (by decide) (by decide) (fun _ h => absurd h List.not_mem_nil) dX7_stain_3 rfl (Nat.le_of_ble_eq_true rfl) ⟨by decide, by decide⟩ (fun r u p_1 => ?_)
  obtain ⟨rfl, rfl⟩ := p_1
  refine g_perm (ws1 := [(m0, oo 7 (fMo ra mm nf ti so ta go sl lo cn lx ly pm pi)), (ra 34, aI E 6 sn)]) [0, 1] rfl (by decide) rfl ?_
  refine g_if_eq_b (tgt := 18) dX7_stain_6 rfl (fun c_2 => ?_) (fun c_2 => ?_)
  · refine g_iload_n 2 dX7_stain_9 rfl rfl ?_
    refine g_iconst dX7_stain_10 ?_
    refine g_iconst dX7_stain_11 ?_
    refine g_callS_i (n := 3) (As := [.int (iI v), .int (iI 0), .int (iI 3)]) (wr := [(m0, oo 7 (fMo ra mm nf ti so ta go sl lo cn lx ly pm pi)), (ra 34, aI E 6 sn)]) [] (c_X7_in E v 0 3 (by omega) (by omega) (by omega)) [] [0, 1] gX7_stain_X7_in rfl ⟨rfl, by decide +kernel⟩ ⟨by decide, by decide⟩ rfl rfl rfl rfl rfl (by decide) rfl (by decide) (by decide) (fun _ h => absurd h List.not_mem_nil) dX7_stain_12 rfl (Nat.le_of_ble_eq_true rfl) ⟨by decide, by decide⟩ (fun r u p_3 => ?_)
    obtain ⟨rfl, rfl⟩ := p_3
    refine g_perm (ws1 := [(m0, oo 7 (fMo ra mm nf ti so ta go sl lo cn lx ly pm pi)), (ra 34, aI E 6 sn)]) [0, 1] rfl (by decide) rfl ?_
    refine g_if_ne_b (tgt := 20) dX7_stain_15 rfl (fun c_4 => ?_) (fun c_4 => ?_)
    · refine g_aload_n 0 dX7_stain_20 rfl rfl ?_
      refine g_get (C := RX7) (T := TX7) (N := 43) 0 34 (fun _ h => List.mem_cons_of_mem _ (List.mem_append_right _ h)) (List.mem_of_getElem? (i := 1) rfl) rfl rfl (by decide) rfl rfl dX7_stain_21 ?_
      refine g_iload_n 1 dX7_stain_24 rfl rfl ?_
      refine g_iald 1 dX7_stain_25 rfl (by decide) (by omega) (by omega) ?_
      have q_5 := hsn k
      refine g_istore_n (lv1 := [(3, .int (iI (sn k))), (0, .ref m0), (1, .int (iI k)), (2, .int (iI v))]) dX7_stain_26 rfl (by decide) rfl ?_
      refine g_aload_n 1 dX7_stain_27 rfl rfl ?_
      refine g_get (C := RX7) (T := TX7) (N := 43) 0 34 (fun _ h => List.mem_cons_of_mem _ (List.mem_append_right _ h)) (List.mem_of_getElem? (i := 1) rfl) rfl rfl (by decide) rfl rfl dX7_stain_28 ?_
      refine g_iload_n 2 dX7_stain_31 rfl rfl ?_
      refine g_iload_n 3 dX7_stain_32 rfl rfl ?_
      refine g_iast (ws1 := [(m0, oo 7 (fMo ra mm nf ti so ta go sl lo cn lx ly pm pi)), (ra 34, aI E 6 (up sn k v))]) 1 dX7_stain_33 rfl rfl (by decide) (by omega) (by omega) ?_
      refine g_iload_n 0 dX7_stain_34 rfl rfl ?_
      exact g_iret hRet dX7_stain_35 rfl ⟨(sn k), (up sn k v), (by unfold sp_stain; rw [if_neg (by omega)]; exact ⟨rfl, rfl⟩), rfl, rfl⟩
    · refine g_iconst dX7_stain_18 ?_
      exact g_iret hRet dX7_stain_19 rfl ⟨(-1), sn, (by unfold sp_stain; rw [if_pos (by omega)]; exact ⟨rfl, rfl⟩), rfl, rfl⟩
  · refine g_iconst dX7_stain_18 ?_
    exact g_iret hRet dX7_stain_19 rfl ⟨(-1), sn, (by unfold sp_stain; rw [if_pos (by omega)]; exact ⟨rfl, rfl⟩), rfl, rfl⟩

set_option maxHeartbeats 4000000 in
set_option maxRecDepth 100000 in
theorem c_X7_minutes (E : Ev) (m0 : Nat) (ra : Nat → Nat) (mm : Int) (nf : Int) (ti : Int) (so : Int) (ta : Int) (go : Int) (sl : Int) (lo : Int) (cn : Int) (lx : Int) (ly : Int) (pm : Int) (pi : Int) (ch : Int → Int) (sn : Int → Int) (ru : Int → Int) (a : Int) (b : Int) (hcn : 0 ≤ cn ∧ cn ≤ 200) (hch : ∀ k, 0 ≤ ch k ∧ ch k ≤ 500) (hsn : ∀ k, 0 ≤ sn k ∧ sn k ≤ 3) (hru : (1 ≤ ru 0 ∧ ru 0 ≤ 12) ∧ (1 ≤ ru 1 ∧ ru 1 ≤ 20) ∧ (0 ≤ ru 2 ∧ ru 2 ≤ 10000) ∧ (0 ≤ ru 3 ∧ ru 3 ≤ 10000) ∧ (0 ≤ ru 4 ∧ ru 4 ≤ 1000) ∧ (0 ≤ ru 5 ∧ ru 5 ≤ 500)) (h_a : -2147483648 ≤ a ∧ a ≤ 2147483647) (h_b : -2147483648 ≤ b ∧ b ≤ 2147483647) (ha : 0 ≤ a ∧ a ≤ 5) (hb : 0 ≤ b ∧ b ≤ 5) : MI yX7_minutes wsX7_minutes ({ frames := 0, cells := 0, slots := 0, locals := 0 } : Room) E [] 0 0 [.ref m0, .int (iI a), .int (iI b)] [(m0, oo 7 (fMo ra mm nf ti so ta go sl lo cn lx ly pm pi)), (ra 33, aI E 36 ch), (ra 34, aI E 6 sn), (ra 32, aI E 6 ru)] (fun r u => r = iI (f_min ch sn (ru 5) a b) ∧ u = [(m0, oo 7 (fMo ra mm nf ti so ta go sl lo cn lx ly pm pi)), (ra 33, aI E 36 ch), (ra 34, aI E 6 sn), (ra 32, aI E 6 ru)]) := by
  refine MI.of (cc := cX7_minutes) (maxL := 3) (own := RX7) (by decide) rfl rfl rfl (Nat.le_of_ble_eq_true rfl) [(0, .ref m0), (1, .int (iI a)), (2, .int (iI b))] rfl ?_
  intro X hin2 hRet
  refine g_aload_n 0 dX7_minutes_0 rfl rfl ?_
  refine g_get (C := RX7) (T := TX7) (N := 43) 0 33 (fun _ h => List.mem_cons_of_mem _ (List.mem_append_right _ h)) (List.mem_of_getElem? (i := 1) rfl) rfl rfl (by decide) rfl rfl dX7_minutes_1 ?_
  refine g_bipush dX7_minutes_4 rfl ?_
  refine g_iload_n 1 dX7_minutes_6 rfl rfl ?_
  refine g_imul dX7_minutes_7 ?_
  refine g_iload_n 2 dX7_minutes_8 rfl rfl ?_
  refine g_iadd dX7_minutes_9 ?_
  refine g_iald 1 dX7_minutes_10 rfl (by decide) (by omega) (by omega) ?_
  have q_1 := hch ((6 * a) + b)
  refine g_aload_n 0 dX7_minutes_11 rfl rfl ?_
  refine g_get (C := RX7) (T := TX7) (N := 43) 0 34 (fun _ h => List.mem_cons_of_mem _ (List.mem_append_right _ h)) (List.mem_of_getElem? (i := 2) rfl) rfl rfl (by decide) rfl rfl dX7_minutes_12 ?_
  refine g_iload_n 1 dX7_minutes_15 rfl rfl ?_
  refine g_iald 2 dX7_minutes_16 rfl (by decide) (by omega) (by omega) ?_
  have q_2 := hsn a
  refine g_aload_n 0 dX7_minutes_17 rfl rfl ?_
  refine g_get (C := RX7) (T := TX7) (N := 43) 0 34 (fun _ h => List.mem_cons_of_mem _ (List.mem_append_right _ h)) (List.mem_of_getElem? (i := 2) rfl) rfl rfl (by decide) rfl rfl dX7_minutes_18 ?_
  refine g_iload_n 2 dX7_minutes_21 rfl rfl ?_
  refine g_iald 2 dX7_minutes_22 rfl (by decide) (by omega) (by omega) ?_
  have q_3 := hsn b
  refine g_icmp_le (tgt := 35) (by unfold R32; omega) (by unfold R32; omega) dX7_minutes_23 rfl (fun c_4 => ?_) (fun c_4 => ?_)
  · refine g_iconst dX7_minutes_35 ?_
    refine g_iadd dX7_minutes_36 ?_
    exact g_iret hRet dX7_minutes_37 rfl ⟨(congrArg iI (by unfold f_min; first | (rw [if_pos (by omega)]; done) | (rw [if_neg (by omega)]; done))), rfl⟩
  · refine g_aload_n 0 dX7_minutes_26 rfl rfl ?_
    refine g_get (C := RX7) (T := TX7) (N := 43) 0 32 (fun _ h => List.mem_cons_of_mem _ (List.mem_append_right _ h)) (List.mem_of_getElem? (i := 3) rfl) rfl rfl (by decide) rfl rfl dX7_minutes_27 ?_
    refine g_iconst dX7_minutes_30 ?_
    refine g_iald 3 dX7_minutes_31 rfl (by decide) (by omega) (by omega) ?_
    refine g_goto (tgt := 36) dX7_minutes_32 rfl ?_
    refine g_iadd dX7_minutes_36 ?_
    exact g_iret hRet dX7_minutes_37 rfl ⟨(congrArg iI (by unfold f_min; first | (rw [if_pos (by omega)]; done) | (rw [if_neg (by omega)]; done))), rfl⟩

def vR (ch sn : Int → Int) (cg : Int) (r : Int → Int) (L k : Int) : Int → Int := fun q => f_min ch sn cg k q + r (64 * q + rb L q)
def nR (ch sn : Int → Int) (cg : Int) (r : Int → Int) (L k : Int) : Int := nk (bt L) (vR ch sn cg r L k) 6
def lR (ch sn : Int → Int) (cg : Int) (r : Int → Int) (L k : Int) : Int := if L = 0 then 0 else vR ch sn cg r L k (nR ch sn cg r L k)
def rT (ch sn : Int → Int) (cg : Int) (r : Int → Int) (L k : Int) : Prop := ∀ L' k', (0 ≤ L' ∧ (L' < L ∨ L' = L ∧ k' < k)) → L' ≤ 63 → 0 ≤ k' → k' ≤ 5 → r (64 * k' + L') = lR ch sn cg r L' k' ∧ 0 ≤ r (64 * k' + L') ∧ r (64 * k' + L') ≤ 1000 * pcn L'
theorem bt0 {q : Int} (hq : 0 ≤ q ∧ q ≤ 5) : bt 0 q = 0 := by
  have e : ∀ k : Nat, k < 6 → bt 0 (k : Int) = 0 := by decide
  have := e q.toNat (by omega)
  rw [show ((q.toNat : Nat) : Int) = q by omega] at this
  exact this
theorem nR_sp {ch sn : Int → Int} {cg L k : Int} {r : Int → Int} (hL : 0 ≤ L ∧ L ≤ 63) (hn : L ≠ 0) : 0 ≤ nR ch sn cg r L k ∧ nR ch sn cg r L k ≤ 5 ∧ bt L (nR ch sn cg r L k) ≠ 0 ∧ ∀ q : Int, 0 ≤ q → q < 6 → bt L q ≠ 0 → vR ch sn cg r L k (nR ch sn cg r L k) ≤ vR ch sn cg r L k q ∧ (vR ch sn cg r L k q = vR ch sn cg r L k (nR ch sn cg r L k) → nR ch sn cg r L k ≤ q) := by
  rcases nk_sp (bt L) (vR ch sn cg r L k) (show (0:Int) ≤ 6 by omega) with ⟨a, b⟩ | ⟨a, b, c, d⟩
  · exact absurd ((nk_bt _ hL).mp a) hn
  · exact ⟨a, by unfold nR; omega, c, d⟩
theorem vR_b {ch sn : Int → Int} {cg L k k0 q : Int} {r : Int → Int} (h : rT ch sn cg r L k0) (hch : ∀ i, 0 ≤ ch i ∧ ch i ≤ 500) (hcg : 0 ≤ cg ∧ cg ≤ 500) (hL : 0 ≤ L ∧ L ≤ 63) (hq : 0 ≤ q ∧ q ≤ 5) (hb : bt L q ≠ 0) : 0 ≤ vR ch sn cg r L k q ∧ vR ch sn cg r L k q ≤ 1000 * pcn L := by
  have f1 := fin1 hL hq
  have f2 := f1.2.2.1 hb
  have f3 := (h (rb L q) q (by omega) (by omega) hq.1 hq.2).2
  have f4 := fmin_b (sn := sn) (a := k) (b := q) hch hcg
  unfold vR
  omega
theorem vR_up {ch sn : Int → Int} {cg L k x L' k' q : Int} {r : Int → Int} (hk : 0 ≤ k ∧ k ≤ 5) (hL : 0 ≤ L ∧ L ≤ 63) (hL' : 0 ≤ L' ∧ L' ≤ L) (hq : 0 ≤ q ∧ q ≤ 5) (hb : bt L' q ≠ 0) : vR ch sn cg (up r (64 * k + L) x) L' k' q = vR ch sn cg r L' k' q := by
  have f1 := fin1 (s := L') (by omega) hq
  have f2 := f1.2.2.1 hb
  unfold vR
  rw [up_n _ _ (by omega)]
theorem lR_up {ch sn : Int → Int} {cg L k x L' k' : Int} {r : Int → Int} (hk : 0 ≤ k ∧ k ≤ 5) (hL : 0 ≤ L ∧ L ≤ 63) (hL' : 0 ≤ L' ∧ L' ≤ L) : lR ch sn cg (up r (64 * k + L) x) L' k' = lR ch sn cg r L' k' := by
  have e : nR ch sn cg (up r (64 * k + L) x) L' k' = nR ch sn cg r L' k' := nk_c (by omega) (fun q q0 q1 qb => vR_up hk hL hL' ⟨q0, by omega⟩ qb)
  unfold lR
  rw [e]
  by_cases z : L' = 0
  · rw [if_pos z, if_pos z]
  · rw [if_neg z, if_neg z]
    obtain ⟨a, b, c, -⟩ := nR_sp (ch := ch) (sn := sn) (cg := cg) (L := L') (k := k') (r := r) (by omega) z
    rw [vR_up hk hL hL' ⟨a, b⟩ c]
theorem rT_s {ch sn : Int → Int} {cg L k : Int} {r : Int → Int} (h : rT ch sn cg r L k) (hch : ∀ i, 0 ≤ ch i ∧ ch i ≤ 500) (hcg : 0 ≤ cg ∧ cg ≤ 500) (hL : 0 ≤ L ∧ L ≤ 63) (hk : 0 ≤ k ∧ k ≤ 5) : rT ch sn cg (up r (64 * k + L) (lR ch sn cg r L k)) L (k + 1) := by
  intro L' k' a b c d
  rw [lR_up hk hL (by omega)]
  by_cases z : 64 * k' + L' = 64 * k + L
  · have z1 : L' = L := by omega
    have z2 : k' = k := by omega
    rw [z, up_s, z1, z2]
    refine ⟨rfl, ?_⟩
    have f6 := (fin1 hL (k := 0) ⟨by omega, by omega⟩).2.2.2.2.2.2
    unfold lR
    by_cases y : L = 0
    · rw [if_pos y]; omega
    · rw [if_neg y]
      obtain ⟨a, b, c, -⟩ := nR_sp (ch := ch) (sn := sn) (cg := cg) (L := L) (k := k) (r := r) hL y
      exact vR_b h hch hcg hL ⟨a, b⟩ c
  · rw [up_n _ _ z]
    exact h L' k' (by omega) b c d
theorem rT_o {ch sn : Int → Int} {cg L : Int} {r : Int → Int} (h : rT ch sn cg r L 6) : rT ch sn cg r (L + 1) 0 := fun L' k' a b c d => h L' k' (by omega) b c d
theorem rT_t {ch sn : Int → Int} {cg : Int} {r : Int → Int} (h : rT ch sn cg r 64 0) (n : Nat) (k L : Int) (hk : 0 ≤ k ∧ k ≤ 5) (hL : 0 ≤ L ∧ L ≤ 63) (hp : pcn L ≤ n) : r (64 * k + L) = tT (f_min ch sn cg) n k L := by
  refine tT_u (f_min ch sn cg) (α := Int × Int) (fun x => (0 ≤ x.1 ∧ x.1 ≤ 63) ∧ (0 ≤ x.2 ∧ x.2 ≤ 5)) (fun x => x.1) (fun x => x.2) (fun x q => (rb x.1 q, q)) (fun x => r (64 * x.2 + x.1)) ?_ ?_ ?_ n (L, k) ⟨hL, hk⟩ hp
  · rintro ⟨L, k⟩ ⟨a, b⟩
    exact a
  · rintro ⟨L, k⟩ q ⟨a, b⟩ q0 q1 qb
    exact ⟨⟨(fin1 a (k := q) ⟨q0, q1⟩).2.1, ⟨q0, q1⟩⟩, rfl, rfl⟩
  · rintro ⟨L, k⟩ ⟨a, b⟩
    simp only at a b ⊢
    rw [(h L k (by omega) a.2 b.1 b.2).1]
    rfl
theorem rT_n {ch sn : Int → Int} {cg k L : Int} {r : Int → Int} (h : rT ch sn cg r 64 0) (hL : 0 ≤ L ∧ L ≤ 63) : nR ch sn cg r L k = tN (f_min ch sn cg) k L := by
  refine nk_c (by omega) (fun q q0 q1 qb => ?_)
  have f1 := fin1 hL (k := q) ⟨q0, by omega⟩
  have f7 := (fin1 f1.2.1 (k := q) ⟨q0, by omega⟩).2.2.2.2.2.2
  unfold vR
  rw [rT_t h 6 q (rb L q) ⟨q0, by omega⟩ f1.2.1 (by omega)]
theorem tW_s {c : Int → Int → Int} {n : Nat} {k L : Int} (h : L ≠ 0) : tW c (n + 1) k L = tW c n (tN c k L) (rb L (tN c k L)) := if_neg h
theorem tW_z {c : Int → Int → Int} {n : Nat} {k L : Int} (h : L = 0) : tW c (n + 1) k L = -4 := if_pos h

/-- the running least of the reference: from 999999, or 0 where nothing is left -/
theorem lstep {L q b x : Int} {v : Int → Int} (hq : 0 ≤ q) (hL : 0 ≤ L ∧ L ≤ 63) (hb : b = (if L = 0 then 0 else if nk (bt L) v q = -4 then 999999 else v (nk (bt L) v q))) (h0 : L = 0 → bt L q = 0)
    (hx : (bt L q ≠ 0 ∧ (0 ≤ v q ∧ v q ≤ 1000 * pcn L) ∧ (v q < b ∧ x = v q)) ∨ (bt L q ≠ 0 ∧ b ≤ v q ∧ v q ≤ 1000 * pcn L ∧ x = b) ∨ (bt L q = 0 ∧ x = b)) (hq5 : q ≤ 5) :
    x = (if L = 0 then 0 else if nk (bt L) v (q + 1) = -4 then 999999 else v (nk (bt L) v (q + 1))) := by
  have h6 := (fin1 hL (k := 0) ⟨by omega, by omega⟩).2.2.2.2.2.2
  have hs := nk_sp (bt L) v hq
  have hn := nk_s (bt L) v hq
  by_cases z : L = 0
  · rw [if_pos z] at hb ⊢
    have := h0 z
    omega
  · rw [if_neg z] at hb ⊢
    have keep : ¬ (bt L q ≠ 0 ∧ (nk (bt L) v q = -4 ∨ v q < v (nk (bt L) v q))) → x = b → x = (if nk (bt L) v (q + 1) = -4 then 999999 else v (nk (bt L) v (q + 1))) := fun c e => by
      rw [if_neg c] at hn
      rw [hn, e]; exact hb
    have take : (bt L q ≠ 0 ∧ (nk (bt L) v q = -4 ∨ v q < v (nk (bt L) v q))) → x = v q → x = (if nk (bt L) v (q + 1) = -4 then 999999 else v (nk (bt L) v (q + 1))) := fun c e => by
      rw [if_pos c] at hn
      rw [hn, if_neg (by omega)]; exact e
    by_cases e : nk (bt L) v q = -4
    · rw [if_pos e] at hb
      rcases hx with ⟨a1, a2, a3, a4⟩ | ⟨a1, a2, a3, a4⟩ | ⟨a1, a2⟩
      · exact take ⟨a1, Or.inl e⟩ a4
      · omega
      · exact keep (fun y => y.1 a1) a2
    · rw [if_neg e] at hb
      rcases hx with ⟨a1, a2, a3, a4⟩ | ⟨a1, a2, a3, a4⟩ | ⟨a1, a2⟩
      · exact take ⟨a1, Or.inr (by omega)⟩ a4
      · exact keep (fun y => by rcases y.2 with y | y; exact e y; omega) a4
      · exact keep (fun y => y.1 a1) a2
theorem lb_b {L q b P : Int} {v : Int → Int} (hq : 0 ≤ q) (hq6 : q ≤ 6) (hb : b = (if L = 0 then 0 else if nk (bt L) v q = -4 then 999999 else v (nk (bt L) v q))) (hv : ∀ q1, 0 ≤ q1 → q1 ≤ 5 → bt L q1 ≠ 0 → 0 ≤ v q1 ∧ v q1 ≤ 1000 * P) (hP : 0 ≤ P ∧ P ≤ 6) : 0 ≤ b ∧ b ≤ 999999 := by
  rw [hb]
  split
  · omega
  · split
    · omega
    · rename_i h1 h2
      rcases nk_sp (bt L) v hq with ⟨a, b⟩ | ⟨a, b, c, d⟩
      · omega
      · have := hv _ a (by omega) c
        omega
theorem lR_e {ch sn : Int → Int} {cg L k : Int} {r : Int → Int} (hL : 0 ≤ L ∧ L ≤ 63) : (if L = 0 then 0 else if nk (bt L) (vR ch sn cg r L k) 6 = -4 then 999999 else vR ch sn cg r L k (nk (bt L) (vR ch sn cg r L k) 6)) = lR ch sn cg r L k := by
  unfold lR
  by_cases z : L = 0
  · rw [if_pos z, if_pos z]
  · rw [if_neg z, if_neg z, if_neg (fun q => z ((nk_bt _ hL).mp q))]; rfl

set_option maxHeartbeats 4000000 in
set_option maxRecDepth 100000 in
theorem c_X7_tour (E : Ev) (m0 : Nat) (ra : Nat → Nat) (mm : Int) (nf : Int) (ti : Int) (so : Int) (ta : Int) (go : Int) (sl : Int) (lo : Int) (cn : Int) (lx : Int) (ly : Int) (pm : Int) (pi : Int) (ch : Int → Int) (sn : Int → Int) (ru : Int → Int) (rs : Int → Int) (s : Int) (fr : Int) (i : Int) (hcn : 0 ≤ cn ∧ cn ≤ 200) (hru : (1 ≤ ru 0 ∧ ru 0 ≤ 12) ∧ (1 ≤ ru 1 ∧ ru 1 ≤ 20) ∧ (0 ≤ ru 2 ∧ ru 2 ≤ 10000) ∧ (0 ≤ ru 3 ∧ ru 3 ≤ 10000) ∧ (0 ≤ ru 4 ∧ ru 4 ≤ 1000) ∧ (0 ≤ ru 5 ∧ ru 5 ≤ 500)) (hch : ∀ i, 0 ≤ ch i ∧ ch i ≤ 500) (hsn : ∀ i, 0 ≤ sn i ∧ sn i ≤ 3) (h_s : -2147483648 ≤ s ∧ s ≤ 2147483647) (h_fr : -2147483648 ≤ fr ∧ fr ≤ 2147483647) (h_i : -2147483648 ≤ i ∧ i ≤ 2147483647) : MI yX7_tour wsX7_tour ({ frames := 1, cells := 0, slots := 0, locals := 22 } : Room) E [] 0 0 [.ref m0, .int (iI s), .int (iI fr), .int (iI i)] [(m0, oo 7 (fMo ra mm nf ti so ta go sl lo cn lx ly pm pi)), (ra 33, aI E 36 ch), (ra 34, aI E 6 sn), (ra 32, aI E 6 ru), (ra 42, aI E 384 rs)] (fun r u => ∃ (x : Int), ∃ (rs' : Int → Int), x = f_tour (f_min ch sn (ru 5)) s fr i ∧ r = iI x ∧ u = [(m0, oo 7 (fMo ra mm nf ti so ta go sl lo cn lx ly pm pi)), (ra 33, aI E 36 ch), (ra 34, aI E 6 sn), (ra 32, aI E 6 ru), (ra 42, aI E 384 rs')]) := by
  refine MI.of (cc := cX7_tour) (maxL := 9) (own := RX7) (by decide) rfl rfl rfl (Nat.le_of_ble_eq_true rfl) [(0, .ref m0), (1, .int (iI s)), (2, .int (iI fr)), (3, .int (iI i))] rfl ?_
  intro X hin2 hRet
  refine g_iload_n 1 dX7_tour_0 rfl rfl ?_
  refine g_iconst dX7_tour_1 ?_
  refine g_bipush dX7_tour_2 rfl ?_
  refine g_callS_i (n := 3) (As := [.int (iI s), .int (iI 1), .int (iI 63)]) (wr := [(m0, oo 7 (fMo ra mm nf ti so ta go sl lo cn lx ly pm pi)), (ra 33, aI E 36 ch), (ra 34, aI E 6 sn), (ra 32, aI E 6 ru), (ra 42, aI E 384 rs)]) [] (c_X7_in E s 1 63 (by omega) (by omega) (by omega)) [] [0, 1, 2, 3, 4] gX7_tour_X7_in rfl ⟨rfl, by decide +kernel⟩ ⟨by decide, by decide⟩ rfl rfl rfl rfl rfl (by decide) rfl (by decide) (by decide) (fun _ h => absurd h List.not_mem_nil) dX7_tour_4 rfl (Nat.le_of_ble_eq_true rfl) ⟨by decide, by decide⟩ (fun r u p_1 => ?_)
  obtain ⟨rfl, rfl⟩ := p_1
  refine g_perm (ws1 := [(m0, oo 7 (fMo ra mm nf ti so ta go sl lo cn lx ly pm pi)), (ra 33, aI E 36 ch), (ra 34, aI E 6 sn), (ra 32, aI E 6 ru), (ra 42, aI E 384 rs)]) [0, 1, 2, 3, 4] rfl (by decide) rfl ?_
  refine g_if_eq_b (tgt := 32) dX7_tour_7 rfl (fun c_2 => ?_) (fun c_2 => ?_)
  · refine g_iload_n 2 dX7_tour_10 rfl rfl ?_
    refine g_iconst dX7_tour_11 ?_
    refine g_iconst dX7_tour_12 ?_
    refine g_callS_i (n := 3) (As := [.int (iI fr), .int (iI 0), .int (iI 5)]) (wr := [(m0, oo 7 (fMo ra mm nf ti so ta go sl lo cn lx ly pm pi)), (ra 33, aI E 36 ch), (ra 34, aI E 6 sn), (ra 32, aI E 6 ru), (ra 42, aI E 384 rs)]) [] (c_X7_in E fr 0 5 (by omega) (by omega) (by omega)) [] [0, 1, 2, 3, 4] gX7_tour_X7_in rfl ⟨rfl, by decide +kernel⟩ ⟨by decide, by decide⟩ rfl rfl rfl rfl rfl (by decide) rfl (by decide) (by decide) (fun _ h => absurd h List.not_mem_nil) dX7_tour_13 rfl (Nat.le_of_ble_eq_true rfl) ⟨by decide, by decide⟩ (fun r u p_3 => ?_)
    obtain ⟨rfl, rfl⟩ := p_3
    refine g_perm (ws1 := [(m0, oo 7 (fMo ra mm nf ti so ta go sl lo cn lx ly pm pi)), (ra 33, aI E 36 ch), (ra 34, aI E 6 sn), (ra 32, aI E 6 ru), (ra 42, aI E 384 rs)]) [0, 1, 2, 3, 4] rfl (by decide) rfl ?_
    refine g_if_eq_b (tgt := 32) dX7_tour_16 rfl (fun c_4 => ?_) (fun c_4 => ?_)
    · refine g_iload_n 1 dX7_tour_19 rfl rfl ?_
      refine g_iload_n 2 dX7_tour_20 rfl rfl ?_
      refine g_ishr dX7_tour_21 ?_
      refine g_iconst dX7_tour_22 ?_
      refine g_iand dX7_tour_23 ?_
      refine g_top (y := iI (bt s fr)) (b32 (by omega) (by omega)).1 ?_
      refine g_if_eq (tgt := 32) (by have q9 := (fin1 (s := s) (k := fr) (by omega) (by omega)).1; unfold R32; omega) dX7_tour_24 rfl (fun c_5 => ?_) (fun c_5 => ?_)
      · refine g_iconst dX7_tour_32 ?_
        exact g_iret hRet dX7_tour_33 rfl ⟨(-1), rs, (by unfold f_tour; rw [if_pos (by omega)]), rfl, rfl⟩
      · refine g_iload_n 3 dX7_tour_27 rfl rfl ?_
        refine g_iconst dX7_tour_28 ?_
        refine g_icmp_ge (tgt := 34) (by unfold R32; omega) (by unfold R32; omega) dX7_tour_29 rfl (fun c_6 => ?_) (fun c_6 => ?_)
        · refine g_iconst dX7_tour_34 ?_
          refine g_istore (lv1 := [(4, .int (iI 0)), (0, .ref m0), (1, .int (iI s)), (2, .int (iI fr)), (3, .int (iI i))]) dX7_tour_35 (by decide) rfl ?_
          refine g_lv (lv1 := [(0, .ref m0), (1, .int (iI s)), (2, .int (iI fr)), (3, .int (iI i)), (4, .int (iI 0))]) [1, 2, 3, 4, 0] rfl ?_
          have L37 : ∀ (nn : Nat) (L : Int) (r : Int → Int) (hL : 0 ≤ L ∧ L ≤ 64) (hT : rT ch sn (ru 5) r L 0) (hm : 64 - L < (nn : Int)), G X ({ frames := 1, cells := 0, slots := 0, locals := 22 } : Room) cX7_tour 9 RX7 wsX7_tour E [] 0 0 [(m0, oo 7 (fMo ra mm nf ti so ta go sl lo cn lx ly pm pi)), (ra 33, aI E 36 ch), (ra 34, aI E 6 sn), (ra 32, aI E 6 ru), (ra 42, aI E 384 r)] [(0, .ref m0), (1, .int (iI s)), (2, .int (iI fr)), (3, .int (iI i)), (4, .int (iI L))] 37 [] := by
            intro nn
            induction nn with
            | zero => intro L r hL hT hm; exfalso; omega
            | succ nn ih37 =>
              intro L r hL hT hm
              refine g_iload 4 dX7_tour_37 rfl ?_
              refine g_bipush dX7_tour_39 rfl ?_
              refine g_icmp_ge (tgt := 168) (by unfold R32; omega) (by unfold R32; omega) dX7_tour_41 rfl (fun c_7 => ?_) (fun c_7 => ?_)
              · refine g_iload_n 1 dX7_tour_168 rfl rfl ?_
                refine g_iconst dX7_tour_169 ?_
                refine g_iload_n 2 dX7_tour_170 rfl rfl ?_
                refine g_ishl dX7_tour_171 ?_
                refine g_iconst dX7_tour_172 ?_
                refine g_ixor dX7_tour_173 ?_
                refine g_iand dX7_tour_174 ?_
                refine g_top (y := iI (rb s fr)) (b32 (by omega) (by omega)).2.1 ?_
                have hTT : rT ch sn (ru 5) r 64 0 := by have e := hT; rw [show L = 64 by omega] at e; exact e
                have hf1 := fin1 (s := s) (k := fr) (by omega) (by omega)
                refine g_istore (lv1 := [(4, .int (iI (rb s fr))), (0, .ref m0), (1, .int (iI s)), (2, .int (iI fr)), (3, .int (iI i))]) dX7_tour_175 (by decide) rfl ?_
                refine g_iload_n 3 dX7_tour_177 rfl rfl ?_
                refine g_istore (lv1 := [(5, .int (iI fr)), (4, .int (iI (rb s fr))), (0, .ref m0), (1, .int (iI s)), (2, .int (iI fr)), (3, .int (iI i))]) dX7_tour_178 (by decide) rfl ?_
                refine g_iload_n 5 dX7_tour_180 rfl rfl ?_
                refine g_if_ge (tgt := 198) (by unfold R32; omega) dX7_tour_181 rfl (fun c_8 => ?_) (fun c_8 => ?_)
                · refine g_iconst dX7_tour_198 ?_
                  refine g_istore (lv1 := [(6, .int (iI 0)), (5, .int (iI fr)), (4, .int (iI (rb s fr))), (0, .ref m0), (1, .int (iI s)), (2, .int (iI fr)), (3, .int (iI i))]) dX7_tour_199 (by decide) rfl ?_
                  refine g_lv (lv1 := [(0, .ref m0), (1, .int (iI s)), (2, .int (iI fr)), (3, .int (iI i)), (4, .int (iI (rb s fr))), (5, .int (iI fr)), (6, .int (iI 0))]) [3, 4, 5, 6, 2, 1, 0] rfl ?_
                  have L201 : ∀ (nn : Nat) (n : Int) (k : Int) (L : Int) (hn : 0 ≤ n ∧ n ≤ i) (hk3 : 0 ≤ k ∧ k ≤ 5) (hL3 : 0 ≤ L ∧ L ≤ 63) (hW : tW (f_min ch sn (ru 5)) (i - n).toNat k L = tW (f_min ch sn (ru 5)) i.toNat fr (rb s fr)) (hm : i - n < (nn : Int)), G X ({ frames := 1, cells := 0, slots := 0, locals := 22 } : Room) cX7_tour 9 RX7 wsX7_tour E [] 0 0 [(m0, oo 7 (fMo ra mm nf ti so ta go sl lo cn lx ly pm pi)), (ra 33, aI E 36 ch), (ra 34, aI E 6 sn), (ra 32, aI E 6 ru), (ra 42, aI E 384 r)] [(0, .ref m0), (1, .int (iI s)), (2, .int (iI fr)), (3, .int (iI i)), (4, .int (iI L)), (5, .int (iI k)), (6, .int (iI n))] 201 [] := by
                    intro nn
                    induction nn with
                    | zero => intro n k L hn hk3 hL3 hW hm; exfalso; omega
                    | succ nn ih201 =>
                      intro n k L hn hk3 hL3 hW hm
                      refine g_iload 6 dX7_tour_201 rfl ?_
                      refine g_iload_n 3 dX7_tour_203 rfl rfl ?_
                      refine g_icmp_ge (tgt := 300) (by unfold R32; omega) (by unfold R32; omega) dX7_tour_204 rfl (fun c_9 => ?_) (fun c_9 => ?_)
                      · refine g_iload 5 dX7_tour_300 rfl ?_
                        exact g_iret hRet dX7_tour_302 rfl ⟨k, r, (by unfold f_tour; rw [if_neg (by omega), if_neg (by omega), ← hW, show (i - n).toNat = 0 by omega]; rfl), rfl, rfl⟩
                      · refine g_iload 4 dX7_tour_207 rfl ?_
                        refine g_if_ne (tgt := 215) (by unfold R32; omega) dX7_tour_209 rfl (fun c_10 => ?_) (fun c_10 => ?_)
                        · refine g_bipush dX7_tour_212 rfl ?_
                          exact g_iret hRet dX7_tour_214 rfl ⟨(-4), r, (by unfold f_tour; rw [if_neg (by omega), if_neg (by omega), ← hW, show (i - n).toNat = (i - (n + 1)).toNat + 1 by omega, tW_z (by assumption)]), rfl, rfl⟩
                        · have hLz : L ≠ 0 := by assumption
                          obtain ⟨hN0, hN1, hN2, hN3⟩ := nR_sp (ch := ch) (sn := sn) (cg := ru 5) (L := L) (k := k) (r := r) hL3 hLz
                          have hrv : r (64 * k + L) = vR ch sn (ru 5) r L k (nR ch sn (ru 5) r L k) := by rw [(hTT L k (by omega) hL3.2 hk3.1 hk3.2).1]; exact if_neg hLz
                          have hTL : rT ch sn (ru 5) r L 0 := fun L1 k1 a1 a2 a3 a4 => hTT L1 k1 (by omega) a2 a3 a4
                          refine g_iconst dX7_tour_215 ?_
                          refine g_istore (lv1 := [(7, .int (iI 0)), (0, .ref m0), (1, .int (iI s)), (2, .int (iI fr)), (3, .int (iI i)), (4, .int (iI L)), (5, .int (iI k)), (6, .int (iI n))]) dX7_tour_216 (by decide) rfl ?_
                          refine g_lv (lv1 := [(0, .ref m0), (1, .int (iI s)), (2, .int (iI fr)), (3, .int (iI i)), (4, .int (iI L)), (5, .int (iI k)), (6, .int (iI n)), (7, .int (iI 0))]) [1, 2, 3, 4, 5, 6, 7, 0] rfl ?_
                          have L218 : ∀ (nn : Nat) (q : Int) (hq2 : 0 ≤ q ∧ q ≤ nR ch sn (ru 5) r L k) (hm : nR ch sn (ru 5) r L k - q < (nn : Int)), G X ({ frames := 1, cells := 0, slots := 0, locals := 22 } : Room) cX7_tour 9 RX7 wsX7_tour E [] 0 0 [(m0, oo 7 (fMo ra mm nf ti so ta go sl lo cn lx ly pm pi)), (ra 33, aI E 36 ch), (ra 34, aI E 6 sn), (ra 32, aI E 6 ru), (ra 42, aI E 384 r)] [(0, .ref m0), (1, .int (iI s)), (2, .int (iI fr)), (3, .int (iI i)), (4, .int (iI L)), (5, .int (iI k)), (6, .int (iI n)), (7, .int (iI q))] 218 [] := by
                            intro nn
                            induction nn with
                            | zero => intro q hq2 hm; exfalso; omega
                            | succ nn ih218 =>
                              intro q hq2 hm
                              refine g_iload 4 dX7_tour_218 rfl ?_
                              refine g_iload 7 dX7_tour_220 rfl ?_
                              refine g_ishr dX7_tour_222 ?_
                              refine g_iconst dX7_tour_223 ?_
                              refine g_iand dX7_tour_224 ?_
                              refine g_top (y := iI (bt L q)) (b32 hL3 (by omega)).1 ?_
                              refine g_if_eq (tgt := 273) (by have q9 := (fin1 (s := L) (k := q) (by omega) (by omega)).1; unfold R32; omega) dX7_tour_225 rfl (fun c_11 => ?_) (fun c_11 => ?_)
                              · refine g_iinc (lv1 := [(7, .int (iI (q + 1))), (0, .ref m0), (1, .int (iI s)), (2, .int (iI fr)), (3, .int (iI i)), (4, .int (iI L)), (5, .int (iI k)), (6, .int (iI n))]) 7 dX7_tour_273 rfl (by decide) rfl ?_
                                refine g_goto (tgt := 218) dX7_tour_276 rfl ?_
                                refine g_lv (lv1 := [(0, .ref m0), (1, .int (iI s)), (2, .int (iI fr)), (3, .int (iI i)), (4, .int (iI L)), (5, .int (iI k)), (6, .int (iI n)), (7, .int (iI (q + 1)))]) [1, 2, 3, 4, 5, 6, 7, 0] rfl ?_
                                exact ih218 (q + 1) (by have hne : q ≠ nR ch sn (ru 5) r L k := fun e => (by first | (rw [← e] at hN2; exact hN2 (by assumption)) | (rw [← e] at hrv; exact absurd hrv.symm (by assumption))); omega) (by have hne : q ≠ nR ch sn (ru 5) r L k := fun e => (by first | (rw [← e] at hN2; exact hN2 (by assumption)) | (rw [← e] at hrv; exact absurd hrv.symm (by assumption))); omega)
                              · refine g_aload_n 0 dX7_tour_228 rfl rfl ?_
                                refine g_iload 5 dX7_tour_229 rfl ?_
                                refine g_iload 7 dX7_tour_231 rfl ?_
                                refine g_callV_i (n := 2) (As := [.int (iI k), .int (iI q)]) (wr := [(ra 42, aI E 384 r)]) (C := RX7) [] (c_X7_minutes E m0 ra mm nf ti so ta go sl lo cn lx ly pm pi ch sn ru k q (by omega) (by exact hch) (by exact hsn) (by exact hru) (by omega) (by omega) (by omega) (by omega)) [0, 1, 2, 3] [4] 0 rfl rfl gX7_tour_X7_minutes rfl ⟨rfl, by decide +kernel⟩ ⟨by decide, by decide⟩ rfl rfl rfl rfl rfl (by decide) rfl (by decide) (by decide) (fun _ h => absurd h List.not_mem_nil) dX7_tour_233 rfl (Nat.le_of_ble_eq_true rfl) ⟨by decide, by decide⟩ (fun r u p_12 => ?_)
                                obtain ⟨rfl, rfl⟩ := p_12
                                refine g_perm (ws1 := [(m0, oo 7 (fMo ra mm nf ti so ta go sl lo cn lx ly pm pi)), (ra 33, aI E 36 ch), (ra 34, aI E 6 sn), (ra 32, aI E 6 ru), (ra 42, aI E 384 r)]) [1, 2, 3, 4, 0] rfl (by decide) rfl ?_
                                refine g_aload_n 0 dX7_tour_236 rfl rfl ?_
                                refine g_get (C := RX7) (T := TX7) (N := 43) 0 42 (fun _ h => List.mem_cons_of_mem _ (List.mem_append_right _ h)) (List.mem_of_getElem? (i := 2) rfl) rfl rfl (by decide) rfl rfl dX7_tour_237 ?_
                                refine g_bipush dX7_tour_240 rfl ?_
                                refine g_iload 7 dX7_tour_242 rfl ?_
                                refine g_imul dX7_tour_244 ?_
                                refine g_iload 4 dX7_tour_245 rfl ?_
                                refine g_iconst dX7_tour_247 ?_
                                refine g_iload 7 dX7_tour_248 rfl ?_
                                refine g_ishl dX7_tour_250 ?_
                                refine g_iconst dX7_tour_251 ?_
                                refine g_ixor dX7_tour_252 ?_
                                refine g_iand dX7_tour_253 ?_
                                refine g_top (y := iI (rb L q)) (b32 (by omega) (by omega)).2.1 ?_
                                refine g_iadd dX7_tour_254 ?_
                                refine g_iald 4 dX7_tour_255 rfl (by decide) (by have q9 := (fin1 (s := L) (k := q) (by omega) (by omega)).2.1; omega) (by have q9 := (fin1 (s := L) (k := q) (by omega) (by omega)).2.1; omega) ?_
                                refine g_iadd dX7_tour_256 ?_
                                refine g_top (y := iI (vR ch sn (ru 5) r L k q)) rfl ?_
                                have hvb := (vR_b hTL hch (by omega) (by omega) (by omega) (by omega) : 0 ≤ vR ch sn (ru 5) r L k q ∧ _)
                                have hp6 := (fin1 (s := L) (k := q) (by omega) (by omega)).2.2.2.2.2.2
                                have hrb := (hTT L k (by omega) hL3.2 hk3.1 hk3.2).2
                                refine g_aload_n 0 dX7_tour_257 rfl rfl ?_
                                refine g_get (C := RX7) (T := TX7) (N := 43) 0 42 (fun _ h => List.mem_cons_of_mem _ (List.mem_append_right _ h)) (List.mem_of_getElem? (i := 2) rfl) rfl rfl (by decide) rfl rfl dX7_tour_258 ?_
                                refine g_bipush dX7_tour_261 rfl ?_
                                refine g_iload 5 dX7_tour_263 rfl ?_
                                refine g_imul dX7_tour_265 ?_
                                refine g_iload 4 dX7_tour_266 rfl ?_
                                refine g_iadd dX7_tour_268 ?_
                                refine g_iald 4 dX7_tour_269 rfl (by decide) (by omega) (by omega) ?_
                                refine g_icmp_eq (tgt := 279) (by unfold R32; omega) (by unfold R32; omega) dX7_tour_270 rfl (fun c_13 => ?_) (fun c_13 => ?_)
                                · have hqN : q = nR ch sn (ru 5) r L k := by have h3 := hN3 q (by omega) (by omega) (by assumption); have h4 := h3.2 (by omega); omega
                                  refine g_iload 4 dX7_tour_279 rfl ?_
                                  refine g_iconst dX7_tour_281 ?_
                                  refine g_iload 7 dX7_tour_282 rfl ?_
                                  refine g_ishl dX7_tour_284 ?_
                                  refine g_iconst dX7_tour_285 ?_
                                  refine g_ixor dX7_tour_286 ?_
                                  refine g_iand dX7_tour_287 ?_
                                  refine g_top (y := iI (rb L q)) (b32 (by omega) (by omega)).2.1 ?_
                                  refine g_istore (lv1 := [(4, .int (iI (rb L q))), (0, .ref m0), (1, .int (iI s)), (2, .int (iI fr)), (3, .int (iI i)), (5, .int (iI k)), (6, .int (iI n)), (7, .int (iI q))]) dX7_tour_288 (by decide) rfl ?_
                                  refine g_iload 7 dX7_tour_290 rfl ?_
                                  refine g_istore (lv1 := [(5, .int (iI q)), (4, .int (iI (rb L q))), (0, .ref m0), (1, .int (iI s)), (2, .int (iI fr)), (3, .int (iI i)), (6, .int (iI n)), (7, .int (iI q))]) dX7_tour_292 (by decide) rfl ?_
                                  refine g_iinc (lv1 := [(6, .int (iI (n + 1))), (5, .int (iI q)), (4, .int (iI (rb L q))), (0, .ref m0), (1, .int (iI s)), (2, .int (iI fr)), (3, .int (iI i)), (7, .int (iI q))]) 6 dX7_tour_294 rfl (by decide) rfl ?_
                                  refine g_goto (tgt := 201) dX7_tour_297 rfl ?_
                                  refine g_lv (lv1 := [(0, .ref m0), (1, .int (iI s)), (2, .int (iI fr)), (3, .int (iI i)), (4, .int (iI (rb L q))), (5, .int (iI q)), (6, .int (iI (n + 1)))]) [3, 4, 5, 6, 2, 1, 0] rfl ?_
                                  exact ih201 (n + 1) q (rb L q) (by omega) (by omega) (by exact (fin1 hL3 (by omega)).2.1) (by rw [← hW, show (i - n).toNat = (i - (n + 1)).toNat + 1 by omega, tW_s hLz, ← rT_n hTT hL3, ← hqN]) (by omega)
                                · refine g_iinc (lv1 := [(7, .int (iI (q + 1))), (0, .ref m0), (1, .int (iI s)), (2, .int (iI fr)), (3, .int (iI i)), (4, .int (iI L)), (5, .int (iI k)), (6, .int (iI n))]) 7 dX7_tour_273 rfl (by decide) rfl ?_
                                  refine g_goto (tgt := 218) dX7_tour_276 rfl ?_
                                  refine g_lv (lv1 := [(0, .ref m0), (1, .int (iI s)), (2, .int (iI fr)), (3, .int (iI i)), (4, .int (iI L)), (5, .int (iI k)), (6, .int (iI n)), (7, .int (iI (q + 1)))]) [1, 2, 3, 4, 5, 6, 7, 0] rfl ?_
                                  exact ih218 (q + 1) (by have hne : q ≠ nR ch sn (ru 5) r L k := fun e => (by first | (rw [← e] at hN2; exact hN2 (by assumption)) | (rw [← e] at hrv; exact absurd hrv.symm (by assumption))); omega) (by have hne : q ≠ nR ch sn (ru 5) r L k := fun e => (by first | (rw [← e] at hN2; exact hN2 (by assumption)) | (rw [← e] at hrv; exact absurd hrv.symm (by assumption))); omega)
                          exact L218 _ 0 (by omega) (lt_nn _)
                  exact L201 _ 0 fr (rb s fr) (by omega) (by omega) (by exact (fin1 (by omega) (by omega)).2.1) (by rw [Int.sub_zero]) (lt_nn _)
                · refine g_aload_n 2 dX7_tour_184 rfl rfl ?_
                  refine g_get (C := RX7) (T := TX7) (N := 43) 0 42 (fun _ h => List.mem_cons_of_mem _ (List.mem_append_right _ h)) (List.mem_of_getElem? (i := 2) rfl) rfl rfl (by decide) rfl rfl dX7_tour_185 ?_
                  refine g_bipush dX7_tour_188 rfl ?_
                  refine g_iload 0 dX7_tour_190 rfl ?_
                  refine g_imul dX7_tour_192 ?_
                  refine g_iload 1 dX7_tour_193 rfl ?_
                  refine g_iadd dX7_tour_195 ?_
                  refine g_iald 4 dX7_tour_196 rfl (by decide) (by omega) (by omega) ?_
                  exact g_iret hRet dX7_tour_197 rfl ⟨(r ((64 * fr) + (rb s fr))), r, (by unfold f_tour; rw [if_neg (by omega), if_pos (by omega)]; exact rT_t hTT 6 _ _ (by omega) hf1.2.1 (by have q9 := (fin1 hf1.2.1 (k := fr) (by omega)).2.2.2.2.2.2; omega)), rfl, rfl⟩
              · refine g_iconst dX7_tour_44 ?_
                refine g_istore (lv1 := [(5, .int (iI 0)), (0, .ref m0), (1, .int (iI s)), (2, .int (iI fr)), (3, .int (iI i)), (4, .int (iI L))]) dX7_tour_45 (by decide) rfl ?_
                refine g_lv (lv1 := [(0, .ref m0), (1, .int (iI s)), (2, .int (iI fr)), (3, .int (iI i)), (4, .int (iI L)), (5, .int (iI 0))]) [1, 2, 3, 4, 5, 0] rfl ?_
                have L47 : ∀ (nn : Nat) (k : Int) (r2 : Int → Int) (hk : 0 ≤ k ∧ k ≤ 6) (hT2 : rT ch sn (ru 5) r2 L k) (hm : 6 - k < (nn : Int)), G X ({ frames := 1, cells := 0, slots := 0, locals := 22 } : Room) cX7_tour 9 RX7 wsX7_tour E [] 0 0 [(m0, oo 7 (fMo ra mm nf ti so ta go sl lo cn lx ly pm pi)), (ra 33, aI E 36 ch), (ra 34, aI E 6 sn), (ra 32, aI E 6 ru), (ra 42, aI E 384 r2)] [(0, .ref m0), (1, .int (iI s)), (2, .int (iI fr)), (3, .int (iI i)), (4, .int (iI L)), (5, .int (iI k))] 47 [] := by
                  intro nn
                  induction nn with
                  | zero => intro k r2 hk hT2 hm; exfalso; omega
                  | succ nn ih47 =>
                    intro k r2 hk hT2 hm
                    refine g_iload 5 dX7_tour_47 rfl ?_
                    refine g_bipush dX7_tour_49 rfl ?_
                    refine g_icmp_ge (tgt := 162) (by unfold R32; omega) (by unfold R32; omega) dX7_tour_51 rfl (fun c_14 => ?_) (fun c_14 => ?_)
                    · refine g_iinc (lv1 := [(4, .int (iI (L + 1))), (0, .ref m0), (1, .int (iI s)), (2, .int (iI fr)), (3, .int (iI i)), (5, .int (iI k))]) 4 dX7_tour_162 rfl (by decide) rfl ?_
                      refine g_goto (tgt := 37) dX7_tour_165 rfl ?_
                      refine g_lv (lv1 := [(0, .ref m0), (1, .int (iI s)), (2, .int (iI fr)), (3, .int (iI i)), (4, .int (iI (L + 1)))]) [1, 2, 3, 4, 0] rfl ?_
                      exact ih37 (L + 1) r2 (by omega) (by exact rT_o (by have e := hT2; rw [show k = 6 by omega] at e; exact e)) (by omega)
                    · refine g_iload 4 dX7_tour_54 rfl ?_
                      refine g_if_ne (tgt := 63) (by unfold R32; omega) dX7_tour_56 rfl (fun c_15 => ?_) (fun c_15 => ?_)
                      · refine g_iconst dX7_tour_59 ?_
                        refine g_goto (tgt := 65) dX7_tour_60 rfl ?_
                        refine g_istore (lv1 := [(6, .int (iI 0)), (0, .ref m0), (1, .int (iI s)), (2, .int (iI fr)), (3, .int (iI i)), (4, .int (iI L)), (5, .int (iI k))]) dX7_tour_65 (by decide) rfl ?_
                        refine g_iconst dX7_tour_67 ?_
                        refine g_istore (lv1 := [(7, .int (iI 0)), (6, .int (iI 0)), (0, .ref m0), (1, .int (iI s)), (2, .int (iI fr)), (3, .int (iI i)), (4, .int (iI L)), (5, .int (iI k))]) dX7_tour_68 (by decide) rfl ?_
                        refine g_lv (lv1 := [(0, .ref m0), (1, .int (iI s)), (2, .int (iI fr)), (3, .int (iI i)), (4, .int (iI L)), (5, .int (iI k)), (6, .int (iI 0)), (7, .int (iI 0))]) [2, 3, 4, 5, 6, 7, 1, 0] rfl ?_
                        have L70 : ∀ (nn : Nat) (q : Int) (b : Int) (hq : 0 ≤ q ∧ q ≤ 6) (hb : b = (if L = 0 then 0 else if nk (bt L) (vR ch sn (ru 5) r2 L k) q = -4 then 999999 else vR ch sn (ru 5) r2 L k (nk (bt L) (vR ch sn (ru 5) r2 L k) q))) (hm : 6 - q < (nn : Int)), G X ({ frames := 1, cells := 0, slots := 0, locals := 22 } : Room) cX7_tour 9 RX7 wsX7_tour E [] 0 0 [(m0, oo 7 (fMo ra mm nf ti so ta go sl lo cn lx ly pm pi)), (ra 33, aI E 36 ch), (ra 34, aI E 6 sn), (ra 32, aI E 6 ru), (ra 42, aI E 384 r2)] [(0, .ref m0), (1, .int (iI s)), (2, .int (iI fr)), (3, .int (iI i)), (4, .int (iI L)), (5, .int (iI k)), (6, .int (iI b)), (7, .int (iI q))] 70 [] := by
                          intro nn
                          induction nn with
                          | zero => intro q b hq hb hm; exfalso; omega
                          | succ nn ih70 =>
                            intro q b hq hb hm
                            refine g_iload 7 dX7_tour_70 rfl ?_
                            refine g_bipush dX7_tour_72 rfl ?_
                            refine g_icmp_ge (tgt := 141) (by unfold R32; omega) (by unfold R32; omega) dX7_tour_74 rfl (fun c_16 => ?_) (fun c_16 => ?_)
                            · have hbl : b = lR ch sn (ru 5) r2 L k := by rw [hb, show q = 6 by omega]; exact lR_e (by omega)
                              refine g_aload_n 0 dX7_tour_141 rfl rfl ?_
                              refine g_get (C := RX7) (T := TX7) (N := 43) 0 42 (fun _ h => List.mem_cons_of_mem _ (List.mem_append_right _ h)) (List.mem_of_getElem? (i := 2) rfl) rfl rfl (by decide) rfl rfl dX7_tour_142 ?_
                              refine g_bipush dX7_tour_145 rfl ?_
                              refine g_iload 5 dX7_tour_147 rfl ?_
                              refine g_imul dX7_tour_149 ?_
                              refine g_iload 4 dX7_tour_150 rfl ?_
                              refine g_iadd dX7_tour_152 ?_
                              refine g_iload 6 dX7_tour_153 rfl ?_
                              refine g_iast (ws1 := [(m0, oo 7 (fMo ra mm nf ti so ta go sl lo cn lx ly pm pi)), (ra 33, aI E 36 ch), (ra 34, aI E 6 sn), (ra 32, aI E 6 ru), (ra 42, aI E 384 (up r2 ((64 * k) + L) b))]) 4 dX7_tour_155 rfl rfl (by decide) (by omega) (by omega) ?_
                              refine g_iinc (lv1 := [(5, .int (iI (k + 1))), (0, .ref m0), (1, .int (iI s)), (2, .int (iI fr)), (3, .int (iI i)), (4, .int (iI L)), (6, .int (iI b)), (7, .int (iI q))]) 5 dX7_tour_156 rfl (by decide) rfl ?_
                              refine g_goto (tgt := 47) dX7_tour_159 rfl ?_
                              refine g_lv (lv1 := [(0, .ref m0), (1, .int (iI s)), (2, .int (iI fr)), (3, .int (iI i)), (4, .int (iI L)), (5, .int (iI (k + 1)))]) [1, 2, 3, 4, 5, 0] rfl ?_
                              exact ih47 (k + 1) (up r2 ((64 * k) + L) b) (by omega) (by rw [hbl]; exact rT_s hT2 hch (by omega) (by omega) (by omega)) (by omega)
                            · refine g_iload 4 dX7_tour_77 rfl ?_
                              refine g_iload 7 dX7_tour_79 rfl ?_
                              refine g_ishr dX7_tour_81 ?_
                              refine g_iconst dX7_tour_82 ?_
                              refine g_iand dX7_tour_83 ?_
                              refine g_top (y := iI (bt L q)) (b32 (by omega) (by omega)).1 ?_
                              refine g_iconst dX7_tour_84 ?_
                              refine g_icmp_ne (tgt := 135) (by have q9 := (fin1 (s := L) (k := q) (by omega) (by omega)).1; unfold R32; omega) (by have q9 := (fin1 (s := L) (k := q) (by omega) (by omega)).1; unfold R32; omega) dX7_tour_85 rfl (fun hbit => ?_) (fun hbit => ?_)
                              · refine g_aload_n 0 dX7_tour_88 rfl rfl ?_
                                refine g_iload 5 dX7_tour_89 rfl ?_
                                refine g_iload 7 dX7_tour_91 rfl ?_
                                refine g_callV_i (n := 2) (As := [.int (iI k), .int (iI q)]) (wr := [(ra 42, aI E 384 r2)]) (C := RX7) [] (c_X7_minutes E m0 ra mm nf ti so ta go sl lo cn lx ly pm pi ch sn ru k q (by omega) (by exact hch) (by exact hsn) (by exact hru) (by omega) (by omega) (by omega) (by omega)) [0, 1, 2, 3] [4] 0 rfl rfl gX7_tour_X7_minutes rfl ⟨rfl, by decide +kernel⟩ ⟨by decide, by decide⟩ rfl rfl rfl rfl rfl (by decide) rfl (by decide) (by decide) (fun _ h => absurd h List.not_mem_nil) dX7_tour_93 rfl (Nat.le_of_ble_eq_true rfl) ⟨by decide, by decide⟩ (fun r u p_17 => ?_)
                                obtain ⟨rfl, rfl⟩ := p_17
                                refine g_perm (ws1 := [(m0, oo 7 (fMo ra mm nf ti so ta go sl lo cn lx ly pm pi)), (ra 33, aI E 36 ch), (ra 34, aI E 6 sn), (ra 32, aI E 6 ru), (ra 42, aI E 384 r2)]) [1, 2, 3, 4, 0] rfl (by decide) rfl ?_
                                refine g_aload_n 0 dX7_tour_96 rfl rfl ?_
                                refine g_get (C := RX7) (T := TX7) (N := 43) 0 42 (fun _ h => List.mem_cons_of_mem _ (List.mem_append_right _ h)) (List.mem_of_getElem? (i := 2) rfl) rfl rfl (by decide) rfl rfl dX7_tour_97 ?_
                                refine g_bipush dX7_tour_100 rfl ?_
                                refine g_iload 7 dX7_tour_102 rfl ?_
                                refine g_imul dX7_tour_104 ?_
                                refine g_iload 4 dX7_tour_105 rfl ?_
                                refine g_iconst dX7_tour_107 ?_
                                refine g_iload 7 dX7_tour_108 rfl ?_
                                refine g_ishl dX7_tour_110 ?_
                                refine g_iconst dX7_tour_111 ?_
                                refine g_ixor dX7_tour_112 ?_
                                refine g_iand dX7_tour_113 ?_
                                refine g_top (y := iI (rb L q)) (b32 (by omega) (by omega)).2.1 ?_
                                refine g_iadd dX7_tour_114 ?_
                                refine g_iald 4 dX7_tour_115 rfl (by decide) (by have q9 := (fin1 (s := L) (k := q) (by omega) (by omega)).2.1; omega) (by have q9 := (fin1 (s := L) (k := q) (by omega) (by omega)).2.1; omega) ?_
                                refine g_iadd dX7_tour_116 ?_
                                refine g_top (y := iI (vR ch sn (ru 5) r2 L k q)) rfl ?_
                                have hvb := (vR_b hT2 hch (by omega) (by omega) (by omega) (by omega) : 0 ≤ vR ch sn (ru 5) r2 L k q ∧ _)
                                have hp6 := (fin1 (s := L) (k := q) (by omega) (by omega)).2.2.2.2.2.2
                                have hbb := lb_b hq.1 (by omega) hb (fun q1 a1 a2 a3 => (vR_b (k := k) hT2 hch (by omega) (by omega) (by omega) a3)) hp6
                                refine g_istore (lv1 := [(8, .int (iI (vR ch sn (ru 5) r2 L k q))), (0, .ref m0), (1, .int (iI s)), (2, .int (iI fr)), (3, .int (iI i)), (4, .int (iI L)), (5, .int (iI k)), (6, .int (iI b)), (7, .int (iI q))]) dX7_tour_117 (by decide) rfl ?_
                                refine g_iload 0 dX7_tour_119 rfl ?_
                                refine g_iload 7 dX7_tour_121 rfl ?_
                                refine g_icmp_ge (tgt := 131) (by unfold R32; omega) (by unfold R32; omega) dX7_tour_123 rfl (fun c_18 => ?_) (fun c_18 => ?_)
                                · refine g_iload 7 dX7_tour_131 rfl ?_
                                  refine g_istore (lv1 := [(6, .int (iI b)), (8, .int (iI (vR ch sn (ru 5) r2 L k q))), (0, .ref m0), (1, .int (iI s)), (2, .int (iI fr)), (3, .int (iI i)), (4, .int (iI L)), (5, .int (iI k)), (7, .int (iI q))]) dX7_tour_133 (by decide) rfl ?_
                                  refine g_iinc (lv1 := [(7, .int (iI (q + 1))), (6, .int (iI b)), (8, .int (iI (vR ch sn (ru 5) r2 L k q))), (0, .ref m0), (1, .int (iI s)), (2, .int (iI fr)), (3, .int (iI i)), (4, .int (iI L)), (5, .int (iI k))]) 8 dX7_tour_135 rfl (by decide) rfl ?_
                                  refine g_goto (tgt := 70) dX7_tour_138 rfl ?_
                                  refine g_lv (lv1 := [(0, .ref m0), (1, .int (iI s)), (2, .int (iI fr)), (3, .int (iI i)), (4, .int (iI L)), (5, .int (iI k)), (6, .int (iI b)), (7, .int (iI (q + 1)))]) [3, 4, 5, 6, 7, 8, 1, 0] rfl ?_
                                  exact ih70 (q + 1) b (by omega) (by refine lstep (v := vR ch sn (ru 5) r2 L k) hq.1 (by omega) hb (fun z => by rw [z]; exact bt0 (by omega)) ?_ (by omega); first | exact Or.inl ⟨by omega, hvb, by omega, rfl⟩ | exact Or.inr (Or.inl ⟨by omega, by omega, hvb.2, rfl⟩) | exact Or.inr (Or.inr ⟨by have q9 := (fin1 (s := L) (k := q) (by omega) (by omega)).1; omega, rfl⟩)) (by omega)
                                · refine g_iload 0 dX7_tour_126 rfl ?_
                                  refine g_goto (tgt := 133) dX7_tour_128 rfl ?_
                                  refine g_istore (lv1 := [(6, .int (iI (vR ch sn (ru 5) r2 L k q))), (8, .int (iI (vR ch sn (ru 5) r2 L k q))), (0, .ref m0), (1, .int (iI s)), (2, .int (iI fr)), (3, .int (iI i)), (4, .int (iI L)), (5, .int (iI k)), (7, .int (iI q))]) dX7_tour_133 (by decide) rfl ?_
                                  refine g_iinc (lv1 := [(7, .int (iI (q + 1))), (6, .int (iI (vR ch sn (ru 5) r2 L k q))), (8, .int (iI (vR ch sn (ru 5) r2 L k q))), (0, .ref m0), (1, .int (iI s)), (2, .int (iI fr)), (3, .int (iI i)), (4, .int (iI L)), (5, .int (iI k))]) 8 dX7_tour_135 rfl (by decide) rfl ?_
                                  refine g_goto (tgt := 70) dX7_tour_138 rfl ?_
                                  refine g_lv (lv1 := [(0, .ref m0), (1, .int (iI s)), (2, .int (iI fr)), (3, .int (iI i)), (4, .int (iI L)), (5, .int (iI k)), (6, .int (iI (vR ch sn (ru 5) r2 L k q))), (7, .int (iI (q + 1)))]) [3, 4, 5, 6, 7, 8, 1, 0] rfl ?_
                                  exact ih70 (q + 1) (vR ch sn (ru 5) r2 L k q) (by omega) (by refine lstep (v := vR ch sn (ru 5) r2 L k) hq.1 (by omega) hb (fun z => by rw [z]; exact bt0 (by omega)) ?_ (by omega); first | exact Or.inl ⟨by omega, hvb, by omega, rfl⟩ | exact Or.inr (Or.inl ⟨by omega, by omega, hvb.2, rfl⟩) | exact Or.inr (Or.inr ⟨by have q9 := (fin1 (s := L) (k := q) (by omega) (by omega)).1; omega, rfl⟩)) (by omega)
                              · refine g_iinc (lv1 := [(7, .int (iI (q + 1))), (0, .ref m0), (1, .int (iI s)), (2, .int (iI fr)), (3, .int (iI i)), (4, .int (iI L)), (5, .int (iI k)), (6, .int (iI b))]) 7 dX7_tour_135 rfl (by decide) rfl ?_
                                refine g_goto (tgt := 70) dX7_tour_138 rfl ?_
                                refine g_lv (lv1 := [(0, .ref m0), (1, .int (iI s)), (2, .int (iI fr)), (3, .int (iI i)), (4, .int (iI L)), (5, .int (iI k)), (6, .int (iI b)), (7, .int (iI (q + 1)))]) [1, 2, 3, 4, 5, 6, 7, 0] rfl ?_
                                exact ih70 (q + 1) b (by omega) (by refine lstep (v := vR ch sn (ru 5) r2 L k) hq.1 (by omega) hb (fun z => by rw [z]; exact bt0 (by omega)) ?_ (by omega); first | exact Or.inl ⟨by omega, hvb, by omega, rfl⟩ | exact Or.inr (Or.inl ⟨by omega, by omega, hvb.2, rfl⟩) | exact Or.inr (Or.inr ⟨by have q9 := (fin1 (s := L) (k := q) (by omega) (by omega)).1; omega, rfl⟩)) (by omega)
                        exact L70 _ 0 0 (by omega) (by first | (rw [if_pos (by omega)]; done) | (rw [if_neg (by omega)]; rfl)) (lt_nn _)
                      · refine g_ldc (index := 220) 999999 (List.mem_of_getElem? (i := 1) rfl) dX7_tour_63 rfl ?_
                        refine g_istore (lv1 := [(6, .int (iI 999999)), (0, .ref m0), (1, .int (iI s)), (2, .int (iI fr)), (3, .int (iI i)), (4, .int (iI L)), (5, .int (iI k))]) dX7_tour_65 (by decide) rfl ?_
                        refine g_iconst dX7_tour_67 ?_
                        refine g_istore (lv1 := [(7, .int (iI 0)), (6, .int (iI 999999)), (0, .ref m0), (1, .int (iI s)), (2, .int (iI fr)), (3, .int (iI i)), (4, .int (iI L)), (5, .int (iI k))]) dX7_tour_68 (by decide) rfl ?_
                        refine g_lv (lv1 := [(0, .ref m0), (1, .int (iI s)), (2, .int (iI fr)), (3, .int (iI i)), (4, .int (iI L)), (5, .int (iI k)), (6, .int (iI 999999)), (7, .int (iI 0))]) [2, 3, 4, 5, 6, 7, 1, 0] rfl ?_
                        have L70 : ∀ (nn : Nat) (q : Int) (b : Int) (hq : 0 ≤ q ∧ q ≤ 6) (hb : b = (if L = 0 then 0 else if nk (bt L) (vR ch sn (ru 5) r2 L k) q = -4 then 999999 else vR ch sn (ru 5) r2 L k (nk (bt L) (vR ch sn (ru 5) r2 L k) q))) (hm : 6 - q < (nn : Int)), G X ({ frames := 1, cells := 0, slots := 0, locals := 22 } : Room) cX7_tour 9 RX7 wsX7_tour E [] 0 0 [(m0, oo 7 (fMo ra mm nf ti so ta go sl lo cn lx ly pm pi)), (ra 33, aI E 36 ch), (ra 34, aI E 6 sn), (ra 32, aI E 6 ru), (ra 42, aI E 384 r2)] [(0, .ref m0), (1, .int (iI s)), (2, .int (iI fr)), (3, .int (iI i)), (4, .int (iI L)), (5, .int (iI k)), (6, .int (iI b)), (7, .int (iI q))] 70 [] := by
                          intro nn
                          induction nn with
                          | zero => intro q b hq hb hm; exfalso; omega
                          | succ nn ih70 =>
                            intro q b hq hb hm
                            refine g_iload 7 dX7_tour_70 rfl ?_
                            refine g_bipush dX7_tour_72 rfl ?_
                            refine g_icmp_ge (tgt := 141) (by unfold R32; omega) (by unfold R32; omega) dX7_tour_74 rfl (fun c_19 => ?_) (fun c_19 => ?_)
                            · have hbl : b = lR ch sn (ru 5) r2 L k := by rw [hb, show q = 6 by omega]; exact lR_e (by omega)
                              refine g_aload_n 0 dX7_tour_141 rfl rfl ?_
                              refine g_get (C := RX7) (T := TX7) (N := 43) 0 42 (fun _ h => List.mem_cons_of_mem _ (List.mem_append_right _ h)) (List.mem_of_getElem? (i := 2) rfl) rfl rfl (by decide) rfl rfl dX7_tour_142 ?_
                              refine g_bipush dX7_tour_145 rfl ?_
                              refine g_iload 5 dX7_tour_147 rfl ?_
                              refine g_imul dX7_tour_149 ?_
                              refine g_iload 4 dX7_tour_150 rfl ?_
                              refine g_iadd dX7_tour_152 ?_
                              refine g_iload 6 dX7_tour_153 rfl ?_
                              refine g_iast (ws1 := [(m0, oo 7 (fMo ra mm nf ti so ta go sl lo cn lx ly pm pi)), (ra 33, aI E 36 ch), (ra 34, aI E 6 sn), (ra 32, aI E 6 ru), (ra 42, aI E 384 (up r2 ((64 * k) + L) b))]) 4 dX7_tour_155 rfl rfl (by decide) (by omega) (by omega) ?_
                              refine g_iinc (lv1 := [(5, .int (iI (k + 1))), (0, .ref m0), (1, .int (iI s)), (2, .int (iI fr)), (3, .int (iI i)), (4, .int (iI L)), (6, .int (iI b)), (7, .int (iI q))]) 5 dX7_tour_156 rfl (by decide) rfl ?_
                              refine g_goto (tgt := 47) dX7_tour_159 rfl ?_
                              refine g_lv (lv1 := [(0, .ref m0), (1, .int (iI s)), (2, .int (iI fr)), (3, .int (iI i)), (4, .int (iI L)), (5, .int (iI (k + 1)))]) [1, 2, 3, 4, 5, 0] rfl ?_
                              exact ih47 (k + 1) (up r2 ((64 * k) + L) b) (by omega) (by rw [hbl]; exact rT_s hT2 hch (by omega) (by omega) (by omega)) (by omega)
                            · refine g_iload 4 dX7_tour_77 rfl ?_
                              refine g_iload 7 dX7_tour_79 rfl ?_
                              refine g_ishr dX7_tour_81 ?_
                              refine g_iconst dX7_tour_82 ?_
                              refine g_iand dX7_tour_83 ?_
                              refine g_top (y := iI (bt L q)) (b32 (by omega) (by omega)).1 ?_
                              refine g_iconst dX7_tour_84 ?_
                              refine g_icmp_ne (tgt := 135) (by have q9 := (fin1 (s := L) (k := q) (by omega) (by omega)).1; unfold R32; omega) (by have q9 := (fin1 (s := L) (k := q) (by omega) (by omega)).1; unfold R32; omega) dX7_tour_85 rfl (fun hbit => ?_) (fun hbit => ?_)
                              · refine g_aload_n 0 dX7_tour_88 rfl rfl ?_
                                refine g_iload 5 dX7_tour_89 rfl ?_
                                refine g_iload 7 dX7_tour_91 rfl ?_
                                refine g_callV_i (n := 2) (As := [.int (iI k), .int (iI q)]) (wr := [(ra 42, aI E 384 r2)]) (C := RX7) [] (c_X7_minutes E m0 ra mm nf ti so ta go sl lo cn lx ly pm pi ch sn ru k q (by omega) (by exact hch) (by exact hsn) (by exact hru) (by omega) (by omega) (by omega) (by omega)) [0, 1, 2, 3] [4] 0 rfl rfl gX7_tour_X7_minutes rfl ⟨rfl, by decide +kernel⟩ ⟨by decide, by decide⟩ rfl rfl rfl rfl rfl (by decide) rfl (by decide) (by decide) (fun _ h => absurd h List.not_mem_nil) dX7_tour_93 rfl (Nat.le_of_ble_eq_true rfl) ⟨by decide, by decide⟩ (fun r u p_20 => ?_)
                                obtain ⟨rfl, rfl⟩ := p_20
                                refine g_perm (ws1 := [(m0, oo 7 (fMo ra mm nf ti so ta go sl lo cn lx ly pm pi)), (ra 33, aI E 36 ch), (ra 34, aI E 6 sn), (ra 32, aI E 6 ru), (ra 42, aI E 384 r2)]) [1, 2, 3, 4, 0] rfl (by decide) rfl ?_
                                refine g_aload_n 0 dX7_tour_96 rfl rfl ?_
                                refine g_get (C := RX7) (T := TX7) (N := 43) 0 42 (fun _ h => List.mem_cons_of_mem _ (List.mem_append_right _ h)) (List.mem_of_getElem? (i := 2) rfl) rfl rfl (by decide) rfl rfl dX7_tour_97 ?_
                                refine g_bipush dX7_tour_100 rfl ?_
                                refine g_iload 7 dX7_tour_102 rfl ?_
                                refine g_imul dX7_tour_104 ?_
                                refine g_iload 4 dX7_tour_105 rfl ?_
                                refine g_iconst dX7_tour_107 ?_
                                refine g_iload 7 dX7_tour_108 rfl ?_
                                refine g_ishl dX7_tour_110 ?_
                                refine g_iconst dX7_tour_111 ?_
                                refine g_ixor dX7_tour_112 ?_
                                refine g_iand dX7_tour_113 ?_
                                refine g_top (y := iI (rb L q)) (b32 (by omega) (by omega)).2.1 ?_
                                refine g_iadd dX7_tour_114 ?_
                                refine g_iald 4 dX7_tour_115 rfl (by decide) (by have q9 := (fin1 (s := L) (k := q) (by omega) (by omega)).2.1; omega) (by have q9 := (fin1 (s := L) (k := q) (by omega) (by omega)).2.1; omega) ?_
                                refine g_iadd dX7_tour_116 ?_
                                refine g_top (y := iI (vR ch sn (ru 5) r2 L k q)) rfl ?_
                                have hvb := (vR_b hT2 hch (by omega) (by omega) (by omega) (by omega) : 0 ≤ vR ch sn (ru 5) r2 L k q ∧ _)
                                have hp6 := (fin1 (s := L) (k := q) (by omega) (by omega)).2.2.2.2.2.2
                                have hbb := lb_b hq.1 (by omega) hb (fun q1 a1 a2 a3 => (vR_b (k := k) hT2 hch (by omega) (by omega) (by omega) a3)) hp6
                                refine g_istore (lv1 := [(8, .int (iI (vR ch sn (ru 5) r2 L k q))), (0, .ref m0), (1, .int (iI s)), (2, .int (iI fr)), (3, .int (iI i)), (4, .int (iI L)), (5, .int (iI k)), (6, .int (iI b)), (7, .int (iI q))]) dX7_tour_117 (by decide) rfl ?_
                                refine g_iload 0 dX7_tour_119 rfl ?_
                                refine g_iload 7 dX7_tour_121 rfl ?_
                                refine g_icmp_ge (tgt := 131) (by unfold R32; omega) (by unfold R32; omega) dX7_tour_123 rfl (fun c_21 => ?_) (fun c_21 => ?_)
                                · refine g_iload 7 dX7_tour_131 rfl ?_
                                  refine g_istore (lv1 := [(6, .int (iI b)), (8, .int (iI (vR ch sn (ru 5) r2 L k q))), (0, .ref m0), (1, .int (iI s)), (2, .int (iI fr)), (3, .int (iI i)), (4, .int (iI L)), (5, .int (iI k)), (7, .int (iI q))]) dX7_tour_133 (by decide) rfl ?_
                                  refine g_iinc (lv1 := [(7, .int (iI (q + 1))), (6, .int (iI b)), (8, .int (iI (vR ch sn (ru 5) r2 L k q))), (0, .ref m0), (1, .int (iI s)), (2, .int (iI fr)), (3, .int (iI i)), (4, .int (iI L)), (5, .int (iI k))]) 8 dX7_tour_135 rfl (by decide) rfl ?_
                                  refine g_goto (tgt := 70) dX7_tour_138 rfl ?_
                                  refine g_lv (lv1 := [(0, .ref m0), (1, .int (iI s)), (2, .int (iI fr)), (3, .int (iI i)), (4, .int (iI L)), (5, .int (iI k)), (6, .int (iI b)), (7, .int (iI (q + 1)))]) [3, 4, 5, 6, 7, 8, 1, 0] rfl ?_
                                  exact ih70 (q + 1) b (by omega) (by refine lstep (v := vR ch sn (ru 5) r2 L k) hq.1 (by omega) hb (fun z => by rw [z]; exact bt0 (by omega)) ?_ (by omega); first | exact Or.inl ⟨by omega, hvb, by omega, rfl⟩ | exact Or.inr (Or.inl ⟨by omega, by omega, hvb.2, rfl⟩) | exact Or.inr (Or.inr ⟨by have q9 := (fin1 (s := L) (k := q) (by omega) (by omega)).1; omega, rfl⟩)) (by omega)
                                · refine g_iload 0 dX7_tour_126 rfl ?_
                                  refine g_goto (tgt := 133) dX7_tour_128 rfl ?_
                                  refine g_istore (lv1 := [(6, .int (iI (vR ch sn (ru 5) r2 L k q))), (8, .int (iI (vR ch sn (ru 5) r2 L k q))), (0, .ref m0), (1, .int (iI s)), (2, .int (iI fr)), (3, .int (iI i)), (4, .int (iI L)), (5, .int (iI k)), (7, .int (iI q))]) dX7_tour_133 (by decide) rfl ?_
                                  refine g_iinc (lv1 := [(7, .int (iI (q + 1))), (6, .int (iI (vR ch sn (ru 5) r2 L k q))), (8, .int (iI (vR ch sn (ru 5) r2 L k q))), (0, .ref m0), (1, .int (iI s)), (2, .int (iI fr)), (3, .int (iI i)), (4, .int (iI L)), (5, .int (iI k))]) 8 dX7_tour_135 rfl (by decide) rfl ?_
                                  refine g_goto (tgt := 70) dX7_tour_138 rfl ?_
                                  refine g_lv (lv1 := [(0, .ref m0), (1, .int (iI s)), (2, .int (iI fr)), (3, .int (iI i)), (4, .int (iI L)), (5, .int (iI k)), (6, .int (iI (vR ch sn (ru 5) r2 L k q))), (7, .int (iI (q + 1)))]) [3, 4, 5, 6, 7, 8, 1, 0] rfl ?_
                                  exact ih70 (q + 1) (vR ch sn (ru 5) r2 L k q) (by omega) (by refine lstep (v := vR ch sn (ru 5) r2 L k) hq.1 (by omega) hb (fun z => by rw [z]; exact bt0 (by omega)) ?_ (by omega); first | exact Or.inl ⟨by omega, hvb, by omega, rfl⟩ | exact Or.inr (Or.inl ⟨by omega, by omega, hvb.2, rfl⟩) | exact Or.inr (Or.inr ⟨by have q9 := (fin1 (s := L) (k := q) (by omega) (by omega)).1; omega, rfl⟩)) (by omega)
                              · refine g_iinc (lv1 := [(7, .int (iI (q + 1))), (0, .ref m0), (1, .int (iI s)), (2, .int (iI fr)), (3, .int (iI i)), (4, .int (iI L)), (5, .int (iI k)), (6, .int (iI b))]) 7 dX7_tour_135 rfl (by decide) rfl ?_
                                refine g_goto (tgt := 70) dX7_tour_138 rfl ?_
                                refine g_lv (lv1 := [(0, .ref m0), (1, .int (iI s)), (2, .int (iI fr)), (3, .int (iI i)), (4, .int (iI L)), (5, .int (iI k)), (6, .int (iI b)), (7, .int (iI (q + 1)))]) [1, 2, 3, 4, 5, 6, 7, 0] rfl ?_
                                exact ih70 (q + 1) b (by omega) (by refine lstep (v := vR ch sn (ru 5) r2 L k) hq.1 (by omega) hb (fun z => by rw [z]; exact bt0 (by omega)) ?_ (by omega); first | exact Or.inl ⟨by omega, hvb, by omega, rfl⟩ | exact Or.inr (Or.inl ⟨by omega, by omega, hvb.2, rfl⟩) | exact Or.inr (Or.inr ⟨by have q9 := (fin1 (s := L) (k := q) (by omega) (by omega)).1; omega, rfl⟩)) (by omega)
                        exact L70 _ 0 999999 (by omega) (by first | (rw [if_pos (by omega)]; done) | (rw [if_neg (by omega)]; rfl)) (lt_nn _)
                exact L47 _ 0 r (by omega) (by exact hT) (lt_nn _)
          exact L37 _ 0 rs (by omega) (by intro L' k' a b c d; exfalso; omega) (lt_nn _)
        · refine g_iconst dX7_tour_32 ?_
          exact g_iret hRet dX7_tour_33 rfl ⟨(-1), rs, (by unfold f_tour; rw [if_pos (by omega)]), rfl, rfl⟩
    · refine g_iconst dX7_tour_32 ?_
      exact g_iret hRet dX7_tour_33 rfl ⟨(-1), rs, (by unfold f_tour; rw [if_pos (by omega)]), rfl, rfl⟩
  · refine g_iconst dX7_tour_32 ?_
    exact g_iret hRet dX7_tour_33 rfl ⟨(-1), rs, (by unfold f_tour; rw [if_pos (by omega)]), rfl, rfl⟩

end RTOUR
