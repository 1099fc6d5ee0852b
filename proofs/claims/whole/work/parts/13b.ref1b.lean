section REF1B
theorem brk_s3 {bo : Int → Int} {i box : Int} (h : ¬ bo i = box) : up (brk bo i box) i (brk bo i box i) = brk bo (i + 1) box := by
  rw [← brk_s2 h]
  funext k; unfold up
  by_cases hk : k = i
  · rw [if_pos hk, hk]
  · rw [if_neg hk]
theorem ct_no (f : Int → Int) (c : Int) : ∀ n : Nat, (∀ k : Int, 0 ≤ k → k < n → f k ≠ c) → sm (fun k => if f k = c then 1 else 0) n = 0
  | 0, _ => rfl
  | n + 1, h => by
    have e : sm (fun k => if f k = c then 1 else 0) (n + 1) = sm (fun k => if f k = c then 1 else 0) n + (if f (n : Int) = c then 1 else 0) := rfl
    rw [e, ct_no f c n (fun k h0 h1 => h k h0 (by omega)), if_neg (h n (by omega) (by omega))]; rfl
theorem ctI_no {f : Int → Int} {n c : Int} (h : ∀ k : Int, 0 ≤ k → k < n → f k ≠ c) : ctI f n c = 0 := ct_no f c n.toNat (fun k h0 h1 => h k h0 (by omega))
theorem isG_u {bo : Int → Int} {cn box a b : Int} (h : isG bo cn box a) (h2 : isG bo cn box b) : a = b := by
  rcases h with ⟨h1, h2'⟩ | ⟨h1, h3, h4, h5⟩ <;> rcases h2 with ⟨g1, g2⟩ | ⟨g1, g3, g4, g5⟩
  · omega
  · exact absurd g4 (h2' b g1 g3)
  · exact absurd h4 (g2 a h1 h3)
  · by_cases q : a < b
    · exact absurd g4 (h5 b q g3)
    · by_cases q2 : b < a
      · exact absurd h4 (g5 a q2 h3)
      · omega
theorem ruLo_d (k : Int) : (k < 2 → ruLo k = 1) ∧ (2 ≤ k → ruLo k = 0) := by unfold ruLo; split <;> omega
theorem ruHi_d (k : Int) : (k = 0 → ruHi k = 12) ∧ (k = 1 → ruHi k = 20) ∧ (2 ≤ k ∧ k < 4 → ruHi k = 10000) ∧ (k = 4 → ruHi k = 1000) ∧ (5 ≤ k → ruHi k = 500) := by unfold ruHi; (repeat' split) <;> omega
theorem or0 (x : Int32) : x ||| iI 0 = x := by show x ||| 0 = x; exact Int32.or_zero
def lWe (bo : Int → Int) (l k w many : Int) : Prop := (many = 0 ∧ ∀ j, l < j → j < k → bo j ≠ -4) ∨ (many = 1 ∧ l < w ∧ w < k ∧ bo w = -4 ∧ ∀ j, l < j → j < k → bo j = -4 → j = w) ∨ (2 ≤ many ∧ ∃ j1 j2, l < j1 ∧ j1 < j2 ∧ j2 < k ∧ bo j1 = -4 ∧ bo j2 = -4)
theorem lWe_y {bo : Int → Int} {l k w many : Int} (h : lWe bo l k w many) (hl : l < k) (hk : bo k = -4) : lWe bo l (k + 1) k (many + 1) := by
  rcases h with ⟨h1, h2⟩ | ⟨h1, h2, h3, h4, h5⟩ | ⟨h1, j1, j2, h2, h3, h4, h5, h6⟩
  · right; left; refine ⟨by omega, by omega, by omega, hk, fun j j0 j1 j2 => ?_⟩
    by_cases e : j = k
    · exact e
    · exact absurd j2 (h2 j j0 (by omega))
  · right; right; exact ⟨by omega, w, k, h2, h3, by omega, h4, hk⟩
  · right; right; exact ⟨by omega, j1, j2, h2, h3, by omega, h5, h6⟩
theorem lWe_n {bo : Int → Int} {l k w many : Int} (h : lWe bo l k w many) (hk : ¬ bo k = -4) : lWe bo l (k + 1) w many := by
  rcases h with ⟨h1, h2⟩ | ⟨h1, h2, h3, h4, h5⟩ | ⟨h1, j1, j2, h2, h3, h4, h5, h6⟩
  · left; refine ⟨h1, fun j j0 j1 => ?_⟩
    by_cases e : j = k
    · rw [e]; exact hk
    · exact h2 j j0 (by omega)
  · right; left; refine ⟨h1, h2, by omega, h4, fun j j0 j1 j2 => ?_⟩
    by_cases e : j = k
    · rw [e] at j2; exact absurd j2 hk
    · exact h5 j j0 (by omega) j2
  · right; right; exact ⟨h1, j1, j2, h2, h3, by omega, h5, h6⟩
/-- the one loose code between the least and the greatest -/
theorem lWe_1 {bo : Int → Int} {cn box l g k w : Int} (h : lWe bo l k w 1) (hl0 : 0 ≤ l) (hl : bo l = box) (hg : bo g = box) (hb : box ≠ -4) (hgc : g < cn) (hk : g ≤ k) (hk2 : k ≤ g ∨ k = l + 1) (hlg : l ≤ g) : isO bo cn l g w ∧ 0 ≤ w ∧ w ≤ cn - 1 := by
  rcases h with ⟨h1, -⟩ | ⟨-, h2, h3, h4, h5⟩ | ⟨h1, -⟩
  · omega
  · have hw : w ≠ g := fun e => hb (by rw [← hg, ← e]; exact h4)
    refine ⟨Or.inr ⟨by omega, by omega, by omega, by omega, h4, fun j j0 j1 j2 j3 j4 => ?_⟩, by omega, by omega⟩
    refine h5 j ?_ ?_ j4
    · have : j ≠ l := fun e => hb (by rw [← hl, ← e]; exact j4)
      omega
    · have : j ≠ g := fun e => hb (by rw [← hg, ← e]; exact j4)
      omega
  · omega
theorem lWe_0 {bo : Int → Int} {cn box l g k w many : Int} (h : lWe bo l k w many) (hm : many ≠ 1) (hl0 : 0 ≤ l) (hl : bo l = box) (hg : bo g = box) (hb : box ≠ -4) (hgc : g < cn) (hk : g ≤ k) (hk2 : k ≤ g ∨ k = l + 1) (hlg : l ≤ g) : isO bo cn l g (-4) := by
  left; refine ⟨rfl, ?_⟩
  rintro ⟨j, i1, i2, i3, i4, i5, i6⟩
  rcases h with ⟨h1, h2⟩ | ⟨h1, -⟩ | ⟨h1, j1, j2, h2, h3, h4, h5, h6⟩
  · have n1 : j ≠ l := fun e => hb (by rw [← hl, ← e]; exact i5)
    have n2 : j ≠ g := fun e => hb (by rw [← hg, ← e]; exact i5)
    exact h2 j (by omega) (by omega) i5
  · exact hm h1
  · have n2 : j2 ≠ g := fun e => hb (by rw [← hg, ← e]; exact h6)
    have e1 := i6 j1 (by omega) (by omega) (by omega) (by omega) h5
    have e2 := i6 j2 (by omega) (by omega) (by omega) (by omega) h6
    omega

set_option maxHeartbeats 4000000 in
set_option maxRecDepth 100000 in
theorem c_X7_breakUp (E : Ev) (m0 : Nat) (ra : Nat → Nat) (mm : Int) (nf : Int) (ti : Int) (so : Int) (ta : Int) (go : Int) (sl : Int) (lo : Int) (cn : Int) (lx : Int) (ly : Int) (pm : Int) (pi : Int) (bo : Int → Int) (cl : Int → Int) (pl : Int → Int) (se : Int → Int) (un : Int → Int) (on : Int → Int) (what : Int) (i : Int) (hcn : 0 ≤ cn ∧ cn ≤ 200) (hbo : ∀ k, (bo k = -4 ∨ 0 ≤ bo k) ∧ bo k ≤ 29) (hcl : ∀ k, 0 ≤ cl k ∧ cl k ≤ 1) (hpl : ∀ k, (pl k = -4 ∨ 0 ≤ pl k) ∧ pl k ≤ 5) (hse : ∀ k, 0 ≤ se k ∧ se k ≤ 1) (h_what : -2147483648 ≤ what ∧ what ≤ 2147483647) (h_i : -2147483648 ≤ i ∧ i ≤ 2147483647) (hun : ∀ c, 0 ≤ c → c < 30 → un c = ctI bo cn c) (hon : ∀ c, 0 ≤ c → c < 6 → on c = ctI pl 30 c) : MI yX7_breakUp wsX7_breakUp ({ frames := 2, cells := 0, slots := 0, locals := 42 } : Room) E [] 0 0 [.ref m0, .int (iI what), .int (iI i)] [(m0, oo 7 (fMo ra mm nf ti so ta go sl lo cn lx ly pm pi)), (ra 27, aI E 200 bo), (ra 29, aZ E 30 cl), (ra 30, aI E 30 pl), (ra 31, aZ E 6 se)] (fun r u => ∃ (x : Int), ∃ (bo' : Int → Int), ∃ (un' : Int → Int), ∃ (cl' : Int → Int), ∃ (pl' : Int → Int), ∃ (on' : Int → Int), ∃ (se' : Int → Int), sp_break cn bo cl un pl on se what i x bo' un' cl' pl' on' se' ∧ r = iI x ∧ u = [(m0, oo 7 (fMo ra mm nf ti so ta go sl lo cn lx ly pm pi)), (ra 27, aI E 200 bo'), (ra 29, aZ E 30 cl'), (ra 30, aI E 30 pl'), (ra 31, aZ E 6 se')]) := by
  refine MI.of (cc := cX7_breakUp) (maxL := 5) (own := RX7) (by decide) rfl rfl rfl (Nat.le_of_ble_eq_true rfl) [(0, .ref m0), (1, .int (iI what)), (2, .int (iI i))] rfl ?_
  intro X hin2 hRet
  refine g_iload_n 1 dX7_breakUp_0 rfl rfl ?_
  refine g_iconst dX7_breakUp_1 ?_
  refine g_iconst dX7_breakUp_2 ?_
  refine g_callS_i (n := 3) (As := [.int (iI what), .int (iI 0), .int (iI 1)]) (wr := [(m0, oo 7 (fMo ra mm nf ti so ta go sl lo cn lx ly pm pi)), (ra 27, aI E 200 bo), (ra 29, aZ E 30 cl), (ra 30, aI E 30 pl), (ra 31, aZ E 6 se)]) [] (c_X7_in E what 0 1 (by omega) (by omega) (by omega)) [] [0, 1, 2, 3, 4] gX7_breakUp_X7_in rfl ⟨rfl, by decide +kernel⟩ ⟨by decide, by decide⟩ rfl rfl rfl rfl rfl (by decide) rfl (by decide) (by decide) (fun _ h => absurd h List.not_mem_nil) dX7_breakUp_3 rfl (Nat.le_of_ble_eq_true rfl) ⟨by decide, by decide⟩ (fun r u p_1 => ?_)
  obtain ⟨rfl, rfl⟩ := p_1
  refine g_perm (ws1 := [(m0, oo 7 (fMo ra mm nf ti so ta go sl lo cn lx ly pm pi)), (ra 27, aI E 200 bo), (ra 29, aZ E 30 cl), (ra 30, aI E 30 pl), (ra 31, aZ E 6 se)]) [0, 1, 2, 3, 4] rfl (by decide) rfl ?_
  refine g_if_eq_b (tgt := 30) dX7_breakUp_6 rfl (fun c_2 => ?_) (fun c_2 => ?_)
  · refine g_iload_n 1 dX7_breakUp_9 rfl rfl ?_
    refine g_if_ne (tgt := 23) (by unfold R32; omega) dX7_breakUp_10 rfl (fun c_3 => ?_) (fun c_3 => ?_)
    · refine g_iload_n 2 dX7_breakUp_13 rfl rfl ?_
      refine g_callS_i (n := 1) (As := [.int (iI i)]) (wr := [(m0, oo 7 (fMo ra mm nf ti so ta go sl lo cn lx ly pm pi)), (ra 27, aI E 200 bo), (ra 29, aZ E 30 cl), (ra 30, aI E 30 pl), (ra 31, aZ E 6 se)]) [] (c_X7_isCase E i (by omega)) [] [0, 1, 2, 3, 4] gX7_breakUp_X7_isCase rfl ⟨rfl, by decide +kernel⟩ ⟨by decide, by decide⟩ rfl rfl rfl rfl rfl (by decide) rfl (by decide) (by decide) (fun _ h => absurd h List.not_mem_nil) dX7_breakUp_14 rfl (Nat.le_of_ble_eq_true rfl) ⟨by decide, by decide⟩ (fun r u p_4 => ?_)
      obtain ⟨rfl, rfl⟩ := p_4
      refine g_perm (ws1 := [(m0, oo 7 (fMo ra mm nf ti so ta go sl lo cn lx ly pm pi)), (ra 27, aI E 200 bo), (ra 29, aZ E 30 cl), (ra 30, aI E 30 pl), (ra 31, aZ E 6 se)]) [0, 1, 2, 3, 4] rfl (by decide) rfl ?_
      refine g_if_eq_b (tgt := 30) dX7_breakUp_17 rfl (fun c_5 => ?_) (fun c_5 => ?_)
      · refine g_goto (tgt := 32) dX7_breakUp_20 rfl ?_
        refine g_iload_n 1 dX7_breakUp_32 rfl rfl ?_
        refine g_if_ne (tgt := 48) (by unfold R32; omega) dX7_breakUp_33 rfl (fun c_6 => ?_) (fun c_6 => ?_)
        · refine g_aload_n 0 dX7_breakUp_36 rfl rfl ?_
          refine g_get (C := RX7) (T := TX7) (N := 43) 0 30 (fun _ h => List.mem_cons_of_mem _ (List.mem_append_right _ h)) (List.mem_of_getElem? (i := 1) rfl) rfl rfl (by decide) rfl rfl dX7_breakUp_37 ?_
          refine g_iload_n 2 dX7_breakUp_40 rfl rfl ?_
          refine g_iald 3 dX7_breakUp_41 rfl (by decide) (by omega) (by omega) ?_
          have q_7 := hpl i
          refine g_if_lt (tgt := 48) (by unfold R32; omega) dX7_breakUp_42 rfl (fun c_8 => ?_) (fun c_8 => ?_)
          · refine g_iload_n 1 dX7_breakUp_48 rfl rfl ?_
            refine g_if_ne (tgt := 60) (by unfold R32; omega) dX7_breakUp_49 rfl (fun c_9 => ?_) (fun c_9 => ?_)
            · refine g_aload_n 0 dX7_breakUp_52 rfl rfl ?_
              refine g_iload_n 2 dX7_breakUp_53 rfl rfl ?_
              refine g_callV_i (n := 1) (As := [.int (iI i)]) (wr := [(ra 29, aZ E 30 cl), (ra 30, aI E 30 pl), (ra 31, aZ E 6 se)]) (C := RX7) [] (c_X7_units E m0 ra mm nf ti so ta go sl lo cn lx ly pm pi bo i (by omega) (by omega) (by omega)) [0, 1] [2, 3, 4] 0 rfl rfl gX7_breakUp_X7_units rfl ⟨rfl, by decide +kernel⟩ ⟨by decide, by decide⟩ rfl rfl rfl rfl rfl (by decide) rfl (by decide) (by decide) (fun _ h => absurd h List.not_mem_nil) dX7_breakUp_54 rfl (Nat.le_of_ble_eq_true rfl) ⟨by decide, by decide⟩ (fun r u p_10 => ?_)
              obtain ⟨rfl, rfl⟩ := p_10
              refine g_perm (ws1 := [(m0, oo 7 (fMo ra mm nf ti so ta go sl lo cn lx ly pm pi)), (ra 27, aI E 200 bo), (ra 29, aZ E 30 cl), (ra 30, aI E 30 pl), (ra 31, aZ E 6 se)]) [3, 4, 0, 1, 2] rfl (by decide) rfl ?_
              have hu := hun i (by omega) (by omega)
              refine g_goto (tgt := 65) dX7_breakUp_57 rfl ?_
              refine g_istore_n (lv1 := [(3, .int (iI (ctI bo cn i))), (0, .ref m0), (1, .int (iI what)), (2, .int (iI i))]) dX7_breakUp_65 rfl (by decide) rfl ?_
              refine g_iload_n 2 dX7_breakUp_66 rfl rfl ?_
              refine g_if_ne (tgt := 128) (by unfold R32; omega) dX7_breakUp_67 rfl (fun c_11 => ?_) (fun c_11 => ?_)
              · refine g_iconst dX7_breakUp_70 ?_
                refine g_istore (lv1 := [(4, .int (iI 0)), (3, .int (iI (ctI bo cn i))), (0, .ref m0), (1, .int (iI what)), (2, .int (iI i))]) dX7_breakUp_71 (by decide) rfl ?_
                refine g_lv (lv1 := [(0, .ref m0), (1, .int (iI what)), (2, .int (iI i)), (3, .int (iI (ctI bo cn i))), (4, .int (iI 0))]) [2, 3, 4, 1, 0] rfl ?_
                have L73 : ∀ (nn : Nat) (k : Int) (f : Int → Int) (hk : 0 ≤ k ∧ k ≤ cn) (hf : f = brk bo k i) (hm : cn - k < (nn : Int)), G X ({ frames := 2, cells := 0, slots := 0, locals := 42 } : Room) cX7_breakUp 5 RX7 wsX7_breakUp E [] 0 0 [(m0, oo 7 (fMo ra mm nf ti so ta go sl lo cn lx ly pm pi)), (ra 27, aI E 200 f), (ra 29, aZ E 30 cl), (ra 30, aI E 30 pl), (ra 31, aZ E 6 se)] [(0, .ref m0), (1, .int (iI what)), (2, .int (iI i)), (3, .int (iI (ctI bo cn i))), (4, .int (iI k))] 73 [] := by
                  intro nn
                  induction nn with
                  | zero => intro k f hk hf hm; exfalso; omega
                  | succ nn ih73 =>
                    intro k f hk hf hm
                    refine g_iload 4 dX7_breakUp_73 rfl ?_
                    refine g_aload_n 0 dX7_breakUp_75 rfl rfl ?_
                    refine g_get (C := RX7) (T := TX7) (N := 43) 0 25 (fun _ h => List.mem_cons_of_mem _ (List.mem_append_right _ h)) (List.mem_of_getElem? (i := 2) rfl) rfl rfl (by decide) rfl rfl dX7_breakUp_76 ?_
                    refine g_icmp_ge (tgt := 118) (by unfold R32; omega) (by unfold R32; omega) dX7_breakUp_79 rfl (fun c_12 => ?_) (fun c_12 => ?_)
                    · refine g_aload_n 0 dX7_breakUp_118 rfl rfl ?_
                      refine g_get (C := RX7) (T := TX7) (N := 43) 0 29 (fun _ h => List.mem_cons_of_mem _ (List.mem_append_right _ h)) (List.mem_of_getElem? (i := 4) rfl) rfl rfl (by decide) rfl rfl dX7_breakUp_119 ?_
                      refine g_iload_n 2 dX7_breakUp_122 rfl rfl ?_
                      refine g_iconst dX7_breakUp_123 ?_
                      refine g_zast (ws1 := [(m0, oo 7 (fMo ra mm nf ti so ta go sl lo cn lx ly pm pi)), (ra 27, aI E 200 f), (ra 29, aZ E 30 (up cl i 0)), (ra 30, aI E 30 pl), (ra 31, aZ E 6 se)]) 2 dX7_breakUp_124 rfl (by omega) rfl (by decide) (by omega) (by omega) ?_
                      refine g_goto (tgt := 181) dX7_breakUp_125 rfl ?_
                      refine g_iload_n 3 dX7_breakUp_181 rfl rfl ?_
                      exact g_iret hRet dX7_breakUp_182 rfl ⟨(ctI bo cn i), f, (up un i 0), (up cl i 0), pl, on, se, (by unfold sp_break sBrkB; rw [if_pos (by omega), if_neg (by omega)]; exact ⟨⟨by omega, by rw [hf, show k = cn by omega], rfl, rfl⟩, rfl, rfl, rfl⟩), rfl, rfl⟩
                    · have hfi : f k = bo k := by rw [hf]; exact brk_at bo k i
                      have hbi := hbo k
                      refine g_aload_n 0 dX7_breakUp_82 rfl rfl ?_
                      refine g_get (C := RX7) (T := TX7) (N := 43) 0 27 (fun _ h => List.mem_cons_of_mem _ (List.mem_append_right _ h)) (List.mem_of_getElem? (i := 3) rfl) rfl rfl (by decide) rfl rfl dX7_breakUp_83 ?_
                      refine g_iload 4 dX7_breakUp_86 rfl ?_
                      refine g_aload_n 0 dX7_breakUp_88 rfl rfl ?_
                      refine g_get (C := RX7) (T := TX7) (N := 43) 0 27 (fun _ h => List.mem_cons_of_mem _ (List.mem_append_right _ h)) (List.mem_of_getElem? (i := 3) rfl) rfl rfl (by decide) rfl rfl dX7_breakUp_89 ?_
                      refine g_iload 4 dX7_breakUp_92 rfl ?_
                      refine g_iald 1 dX7_breakUp_94 rfl (by decide) (by omega) (by omega) ?_
                      refine g_iload_n 2 dX7_breakUp_95 rfl rfl ?_
                      refine g_icmp_ne (tgt := 104) (by unfold R32; omega) (by unfold R32; omega) dX7_breakUp_96 rfl (fun hq => ?_) (fun hq => ?_)
                      · refine g_bipush dX7_breakUp_99 rfl ?_
                        refine g_goto (tgt := 111) dX7_breakUp_101 rfl ?_
                        refine g_iast (ws1 := [(m0, oo 7 (fMo ra mm nf ti so ta go sl lo cn lx ly pm pi)), (ra 27, aI E 200 (up f k (-4))), (ra 29, aZ E 30 cl), (ra 30, aI E 30 pl), (ra 31, aZ E 6 se)]) 1 dX7_breakUp_111 rfl rfl (by decide) (by omega) (by omega) ?_
                        refine g_iinc (lv1 := [(4, .int (iI (k + 1))), (0, .ref m0), (1, .int (iI what)), (2, .int (iI i)), (3, .int (iI (ctI bo cn i)))]) 4 dX7_breakUp_112 rfl (by decide) rfl ?_
                        refine g_goto (tgt := 73) dX7_breakUp_115 rfl ?_
                        refine g_lv (lv1 := [(0, .ref m0), (1, .int (iI what)), (2, .int (iI i)), (3, .int (iI (ctI bo cn i))), (4, .int (iI (k + 1)))]) [1, 2, 3, 4, 0] rfl ?_
                        exact ih73 (k + 1) (up f k (-4)) (by omega) (by rw [hf]; exact brk_s1 (by rw [← hfi]; exact hq) (by omega)) (by omega)
                      · refine g_aload_n 0 dX7_breakUp_104 rfl rfl ?_
                        refine g_get (C := RX7) (T := TX7) (N := 43) 0 27 (fun _ h => List.mem_cons_of_mem _ (List.mem_append_right _ h)) (List.mem_of_getElem? (i := 3) rfl) rfl rfl (by decide) rfl rfl dX7_breakUp_105 ?_
                        refine g_iload 4 dX7_breakUp_108 rfl ?_
                        refine g_iald 1 dX7_breakUp_110 rfl (by decide) (by omega) (by omega) ?_
                        refine g_iast (ws1 := [(m0, oo 7 (fMo ra mm nf ti so ta go sl lo cn lx ly pm pi)), (ra 27, aI E 200 (up f k (f k))), (ra 29, aZ E 30 cl), (ra 30, aI E 30 pl), (ra 31, aZ E 6 se)]) 1 dX7_breakUp_111 rfl rfl (by decide) (by omega) (by omega) ?_
                        refine g_iinc (lv1 := [(4, .int (iI (k + 1))), (0, .ref m0), (1, .int (iI what)), (2, .int (iI i)), (3, .int (iI (ctI bo cn i)))]) 4 dX7_breakUp_112 rfl (by decide) rfl ?_
                        refine g_goto (tgt := 73) dX7_breakUp_115 rfl ?_
                        refine g_lv (lv1 := [(0, .ref m0), (1, .int (iI what)), (2, .int (iI i)), (3, .int (iI (ctI bo cn i))), (4, .int (iI (k + 1)))]) [1, 2, 3, 4, 0] rfl ?_
                        exact ih73 (k + 1) (up f k (f k)) (by omega) (by rw [hf]; exact brk_s3 (fun z => hq (by rw [hfi]; exact z))) (by omega)
                exact L73 _ 0 bo (by omega) (by exact brk_0 bo i) (lt_nn _)
              · exact absurd c_9 (by assumption)
            · exact absurd c_6 (by assumption)
          · refine g_bipush dX7_breakUp_45 rfl ?_
            exact g_iret hRet dX7_breakUp_47 rfl ⟨(-2), bo, un, cl, pl, on, se, (by unfold sp_break sBrkB; rw [if_pos (by omega), if_pos (by omega)]; exact ⟨⟨rfl, rfl, rfl, rfl⟩, rfl, rfl, rfl⟩), rfl, rfl⟩
        · exact absurd c_3 (by assumption)
      · refine g_iconst dX7_breakUp_30 ?_
        exact g_iret hRet dX7_breakUp_31 rfl ⟨(-1), bo, un, cl, pl, on, se, (by unfold sp_break; rw [if_neg (by omega), if_neg (by omega)]; exact ⟨rfl, rfl, rfl, rfl, rfl, rfl, rfl⟩), rfl, rfl⟩
    · refine g_iload_n 2 dX7_breakUp_23 rfl rfl ?_
      refine g_callS_i (n := 1) (As := [.int (iI i)]) (wr := [(m0, oo 7 (fMo ra mm nf ti so ta go sl lo cn lx ly pm pi)), (ra 27, aI E 200 bo), (ra 29, aZ E 30 cl), (ra 30, aI E 30 pl), (ra 31, aZ E 6 se)]) [] (c_X7_isPallet E i (by omega)) [] [0, 1, 2, 3, 4] gX7_breakUp_X7_isPallet rfl ⟨rfl, by decide +kernel⟩ ⟨by decide, by decide⟩ rfl rfl rfl rfl rfl (by decide) rfl (by decide) (by decide) (fun _ h => absurd h List.not_mem_nil) dX7_breakUp_24 rfl (Nat.le_of_ble_eq_true rfl) ⟨by decide, by decide⟩ (fun r u p_13 => ?_)
      obtain ⟨rfl, rfl⟩ := p_13
      refine g_perm (ws1 := [(m0, oo 7 (fMo ra mm nf ti so ta go sl lo cn lx ly pm pi)), (ra 27, aI E 200 bo), (ra 29, aZ E 30 cl), (ra 30, aI E 30 pl), (ra 31, aZ E 6 se)]) [0, 1, 2, 3, 4] rfl (by decide) rfl ?_
      refine g_if_ne_b (tgt := 32) dX7_breakUp_27 rfl (fun c_14 => ?_) (fun c_14 => ?_)
      · refine g_iload_n 1 dX7_breakUp_32 rfl rfl ?_
        refine g_if_ne (tgt := 48) (by unfold R32; omega) dX7_breakUp_33 rfl (fun c_15 => ?_) (fun c_15 => ?_)
        · exact absurd (by assumption) c_3
        · refine g_iload_n 1 dX7_breakUp_48 rfl rfl ?_
          refine g_if_ne (tgt := 60) (by unfold R32; omega) dX7_breakUp_49 rfl (fun c_16 => ?_) (fun c_16 => ?_)
          · exact absurd (by assumption) c_15
          · refine g_aload_n 0 dX7_breakUp_60 rfl rfl ?_
            refine g_iload_n 2 dX7_breakUp_61 rfl rfl ?_
            refine g_callV_i (n := 1) (As := [.int (iI i)]) (wr := [(ra 27, aI E 200 bo), (ra 29, aZ E 30 cl), (ra 31, aZ E 6 se)]) (C := RX7) [] (c_X7_casesOn E m0 ra mm nf ti so ta go sl lo cn lx ly pm pi pl i (by omega) (by omega) (by omega)) [0, 3] [1, 2, 4] 0 rfl rfl gX7_breakUp_X7_casesOn rfl ⟨rfl, by decide +kernel⟩ ⟨by decide, by decide⟩ rfl rfl rfl rfl rfl (by decide) rfl (by decide) (by decide) (fun _ h => absurd h List.not_mem_nil) dX7_breakUp_62 rfl (Nat.le_of_ble_eq_true rfl) ⟨by decide, by decide⟩ (fun r u p_17 => ?_)
            obtain ⟨rfl, rfl⟩ := p_17
            refine g_perm (ws1 := [(m0, oo 7 (fMo ra mm nf ti so ta go sl lo cn lx ly pm pi)), (ra 27, aI E 200 bo), (ra 29, aZ E 30 cl), (ra 30, aI E 30 pl), (ra 31, aZ E 6 se)]) [3, 0, 1, 4, 2] rfl (by decide) rfl ?_
            have hu := hon i (by omega) (by omega)
            refine g_istore_n (lv1 := [(3, .int (iI (ctI pl 30 i))), (0, .ref m0), (1, .int (iI what)), (2, .int (iI i))]) dX7_breakUp_65 rfl (by decide) rfl ?_
            refine g_iload_n 2 dX7_breakUp_66 rfl rfl ?_
            refine g_if_ne (tgt := 128) (by unfold R32; omega) dX7_breakUp_67 rfl (fun c_18 => ?_) (fun c_18 => ?_)
            · exact absurd (by assumption) c_16
            · refine g_iconst dX7_breakUp_128 ?_
              refine g_istore (lv1 := [(4, .int (iI 0)), (3, .int (iI (ctI pl 30 i))), (0, .ref m0), (1, .int (iI what)), (2, .int (iI i))]) dX7_breakUp_129 (by decide) rfl ?_
              refine g_lv (lv1 := [(0, .ref m0), (1, .int (iI what)), (2, .int (iI i)), (3, .int (iI (ctI pl 30 i))), (4, .int (iI 0))]) [2, 3, 4, 1, 0] rfl ?_
              have L131 : ∀ (nn : Nat) (k : Int) (f : Int → Int) (hk : 0 ≤ k ∧ k ≤ 30) (hf : f = brk pl k i) (hm : 30 - k < (nn : Int)), G X ({ frames := 2, cells := 0, slots := 0, locals := 42 } : Room) cX7_breakUp 5 RX7 wsX7_breakUp E [] 0 0 [(m0, oo 7 (fMo ra mm nf ti so ta go sl lo cn lx ly pm pi)), (ra 27, aI E 200 bo), (ra 29, aZ E 30 cl), (ra 30, aI E 30 f), (ra 31, aZ E 6 se)] [(0, .ref m0), (1, .int (iI what)), (2, .int (iI i)), (3, .int (iI (ctI pl 30 i))), (4, .int (iI k))] 131 [] := by
                intro nn
                induction nn with
                | zero => intro k f hk hf hm; exfalso; omega
                | succ nn ih131 =>
                  intro k f hk hf hm
                  refine g_iload 4 dX7_breakUp_131 rfl ?_
                  refine g_bipush dX7_breakUp_133 rfl ?_
                  refine g_icmp_ge (tgt := 174) (by unfold R32; omega) (by unfold R32; omega) dX7_breakUp_135 rfl (fun c_19 => ?_) (fun c_19 => ?_)
                  · refine g_aload_n 0 dX7_breakUp_174 rfl rfl ?_
                    refine g_get (C := RX7) (T := TX7) (N := 43) 0 31 (fun _ h => List.mem_cons_of_mem _ (List.mem_append_right _ h)) (List.mem_of_getElem? (i := 5) rfl) rfl rfl (by decide) rfl rfl dX7_breakUp_175 ?_
                    refine g_iload_n 2 dX7_breakUp_178 rfl rfl ?_
                    refine g_iconst dX7_breakUp_179 ?_
                    refine g_zast (ws1 := [(m0, oo 7 (fMo ra mm nf ti so ta go sl lo cn lx ly pm pi)), (ra 27, aI E 200 bo), (ra 29, aZ E 30 cl), (ra 30, aI E 30 f), (ra 31, aZ E 6 (up se i 0))]) 4 dX7_breakUp_180 rfl (by omega) rfl (by decide) (by omega) (by omega) ?_
                    refine g_iload_n 3 dX7_breakUp_181 rfl rfl ?_
                    exact g_iret hRet dX7_breakUp_182 rfl ⟨(ctI pl 30 i), bo, un, cl, f, (up on i 0), (up se i 0), (by unfold sp_break sBrkB; rw [if_neg (by omega), if_pos (by omega)]; exact ⟨by omega, rfl, rfl, rfl, by rw [hf, show k = 30 by omega], rfl, rfl⟩), rfl, rfl⟩
                  · have hfi : f k = pl k := by rw [hf]; exact brk_at pl k i
                    have hbi := hpl k
                    refine g_aload_n 0 dX7_breakUp_138 rfl rfl ?_
                    refine g_get (C := RX7) (T := TX7) (N := 43) 0 30 (fun _ h => List.mem_cons_of_mem _ (List.mem_append_right _ h)) (List.mem_of_getElem? (i := 1) rfl) rfl rfl (by decide) rfl rfl dX7_breakUp_139 ?_
                    refine g_iload 4 dX7_breakUp_142 rfl ?_
                    refine g_aload_n 0 dX7_breakUp_144 rfl rfl ?_
                    refine g_get (C := RX7) (T := TX7) (N := 43) 0 30 (fun _ h => List.mem_cons_of_mem _ (List.mem_append_right _ h)) (List.mem_of_getElem? (i := 1) rfl) rfl rfl (by decide) rfl rfl dX7_breakUp_145 ?_
                    refine g_iload 4 dX7_breakUp_148 rfl ?_
                    refine g_iald 3 dX7_breakUp_150 rfl (by decide) (by omega) (by omega) ?_
                    refine g_iload_n 2 dX7_breakUp_151 rfl rfl ?_
                    refine g_icmp_ne (tgt := 160) (by unfold R32; omega) (by unfold R32; omega) dX7_breakUp_152 rfl (fun hq => ?_) (fun hq => ?_)
                    · refine g_bipush dX7_breakUp_155 rfl ?_
                      refine g_goto (tgt := 167) dX7_breakUp_157 rfl ?_
                      refine g_iast (ws1 := [(m0, oo 7 (fMo ra mm nf ti so ta go sl lo cn lx ly pm pi)), (ra 27, aI E 200 bo), (ra 29, aZ E 30 cl), (ra 30, aI E 30 (up f k (-4))), (ra 31, aZ E 6 se)]) 3 dX7_breakUp_167 rfl rfl (by decide) (by omega) (by omega) ?_
                      refine g_iinc (lv1 := [(4, .int (iI (k + 1))), (0, .ref m0), (1, .int (iI what)), (2, .int (iI i)), (3, .int (iI (ctI pl 30 i)))]) 4 dX7_breakUp_168 rfl (by decide) rfl ?_
                      refine g_goto (tgt := 131) dX7_breakUp_171 rfl ?_
                      refine g_lv (lv1 := [(0, .ref m0), (1, .int (iI what)), (2, .int (iI i)), (3, .int (iI (ctI pl 30 i))), (4, .int (iI (k + 1)))]) [1, 2, 3, 4, 0] rfl ?_
                      exact ih131 (k + 1) (up f k (-4)) (by omega) (by rw [hf]; exact brk_s1 (by rw [← hfi]; exact hq) (by omega)) (by omega)
                    · refine g_aload_n 0 dX7_breakUp_160 rfl rfl ?_
                      refine g_get (C := RX7) (T := TX7) (N := 43) 0 30 (fun _ h => List.mem_cons_of_mem _ (List.mem_append_right _ h)) (List.mem_of_getElem? (i := 1) rfl) rfl rfl (by decide) rfl rfl dX7_breakUp_161 ?_
                      refine g_iload 4 dX7_breakUp_164 rfl ?_
                      refine g_iald 3 dX7_breakUp_166 rfl (by decide) (by omega) (by omega) ?_
                      refine g_iast (ws1 := [(m0, oo 7 (fMo ra mm nf ti so ta go sl lo cn lx ly pm pi)), (ra 27, aI E 200 bo), (ra 29, aZ E 30 cl), (ra 30, aI E 30 (up f k (f k))), (ra 31, aZ E 6 se)]) 3 dX7_breakUp_167 rfl rfl (by decide) (by omega) (by omega) ?_
                      refine g_iinc (lv1 := [(4, .int (iI (k + 1))), (0, .ref m0), (1, .int (iI what)), (2, .int (iI i)), (3, .int (iI (ctI pl 30 i)))]) 4 dX7_breakUp_168 rfl (by decide) rfl ?_
                      refine g_goto (tgt := 131) dX7_breakUp_171 rfl ?_
                      refine g_lv (lv1 := [(0, .ref m0), (1, .int (iI what)), (2, .int (iI i)), (3, .int (iI (ctI pl 30 i))), (4, .int (iI (k + 1)))]) [1, 2, 3, 4, 0] rfl ?_
                      exact ih131 (k + 1) (up f k (f k)) (by omega) (by rw [hf]; exact brk_s3 (fun z => hq (by rw [hfi]; exact z))) (by omega)
              exact L131 _ 0 pl (by omega) (by exact brk_0 pl i) (lt_nn _)
      · refine g_iconst dX7_breakUp_30 ?_
        exact g_iret hRet dX7_breakUp_31 rfl ⟨(-1), bo, un, cl, pl, on, se, (by unfold sp_break; rw [if_neg (by omega), if_neg (by omega)]; exact ⟨rfl, rfl, rfl, rfl, rfl, rfl, rfl⟩), rfl, rfl⟩
  · refine g_iconst dX7_breakUp_30 ?_
    exact g_iret hRet dX7_breakUp_31 rfl ⟨(-1), bo, un, cl, pl, on, se, (by unfold sp_break; rw [if_neg (by omega), if_neg (by omega)]; exact ⟨rfl, rfl, rfl, rfl, rfl, rfl, rfl⟩), rfl, rfl⟩

set_option maxHeartbeats 4000000 in
set_option maxRecDepth 100000 in
theorem c_X7_rule (E : Ev) (m0 : Nat) (ra : Nat → Nat) (mm : Int) (nf : Int) (ti : Int) (so : Int) (ta : Int) (go : Int) (sl : Int) (lo : Int) (cn : Int) (lx : Int) (ly : Int) (pm : Int) (pi : Int) (bo : Int → Int) (pl : Int → Int) (ru : Int → Int) (un : Int → Int) (on : Int → Int) (what : Int) (v : Int) (hcn : 0 ≤ cn ∧ cn ≤ 200) (hbo : ∀ k, (bo k = -4 ∨ 0 ≤ bo k) ∧ bo k ≤ 29) (hpl : ∀ k, (pl k = -4 ∨ 0 ≤ pl k) ∧ pl k ≤ 5) (hru : (1 ≤ ru 0 ∧ ru 0 ≤ 12) ∧ (1 ≤ ru 1 ∧ ru 1 ≤ 20) ∧ (0 ≤ ru 2 ∧ ru 2 ≤ 10000) ∧ (0 ≤ ru 3 ∧ ru 3 ≤ 10000) ∧ (0 ≤ ru 4 ∧ ru 4 ≤ 1000) ∧ (0 ≤ ru 5 ∧ ru 5 ≤ 500)) (h_what : -2147483648 ≤ what ∧ what ≤ 2147483647) (h_v : -2147483648 ≤ v ∧ v ≤ 2147483647) (hun : ∀ c, 0 ≤ c → c < 30 → un c = ctI bo cn c) (hon : ∀ c, 0 ≤ c → c < 6 → on c = ctI pl 30 c) : MI yX7_rule wsX7_rule ({ frames := 1, cells := 0, slots := 0, locals := 23 } : Room) E [] 0 0 [.ref m0, .int (iI what), .int (iI v)] [(m0, oo 7 (fMo ra mm nf ti so ta go sl lo cn lx ly pm pi)), (ra 27, aI E 200 bo), (ra 30, aI E 30 pl), (ra 32, aI E 6 ru)] (fun r u => ∃ (x : Int), ∃ (ru' : Int → Int), sp_rule un on ru what v x ru' ∧ r = iI x ∧ u = [(m0, oo 7 (fMo ra mm nf ti so ta go sl lo cn lx ly pm pi)), (ra 27, aI E 200 bo), (ra 30, aI E 30 pl), (ra 32, aI E 6 ru')]) := by
  refine MI.of (cc := cX7_rule) (maxL := 4) (own := RX7) (by decide) rfl rfl rfl (Nat.le_of_ble_eq_true rfl) [(0, .ref m0), (1, .int (iI what)), (2, .int (iI v))] rfl ?_
  intro X hin2 hRet
  have q1 := ruLo_d what
  have q2 := ruHi_d what
  refine g_iload_n 1 dX7_rule_0 rfl rfl ?_
  refine g_iconst dX7_rule_1 ?_
  refine g_iconst dX7_rule_2 ?_
  refine g_callS_i (n := 3) (As := [.int (iI what), .int (iI 0), .int (iI 5)]) (wr := [(m0, oo 7 (fMo ra mm nf ti so ta go sl lo cn lx ly pm pi)), (ra 27, aI E 200 bo), (ra 30, aI E 30 pl), (ra 32, aI E 6 ru)]) [] (c_X7_in E what 0 5 (by omega) (by omega) (by omega)) [] [0, 1, 2, 3] gX7_rule_X7_in rfl ⟨rfl, by decide +kernel⟩ ⟨by decide, by decide⟩ rfl rfl rfl rfl rfl (by decide) rfl (by decide) (by decide) (fun _ h => absurd h List.not_mem_nil) dX7_rule_3 rfl (Nat.le_of_ble_eq_true rfl) ⟨by decide, by decide⟩ (fun r u p_1 => ?_)
  obtain ⟨rfl, rfl⟩ := p_1
  refine g_perm (ws1 := [(m0, oo 7 (fMo ra mm nf ti so ta go sl lo cn lx ly pm pi)), (ra 27, aI E 200 bo), (ra 30, aI E 30 pl), (ra 32, aI E 6 ru)]) [0, 1, 2, 3] rfl (by decide) rfl ?_
  refine g_if_eq_b (tgt := 70) dX7_rule_6 rfl (fun c_2 => ?_) (fun c_2 => ?_)
  · refine g_iload_n 2 dX7_rule_9 rfl rfl ?_
    refine g_iload_n 1 dX7_rule_10 rfl rfl ?_
    refine g_iconst dX7_rule_11 ?_
    refine g_icmp_ge (tgt := 19) (by unfold R32; omega) (by unfold R32; omega) dX7_rule_12 rfl (fun c_3 => ?_) (fun c_3 => ?_)
    · refine g_iconst dX7_rule_19 ?_
      refine g_iload_n 1 dX7_rule_20 rfl rfl ?_
      refine g_if_ne (tgt := 29) (by unfold R32; omega) dX7_rule_21 rfl (fun c_4 => ?_) (fun c_4 => ?_)
      · refine g_bipush dX7_rule_24 rfl ?_
        refine g_goto (tgt := 64) dX7_rule_26 rfl ?_
        refine g_callS_i (n := 3) (As := [.int (iI v), .int (iI 0), .int (iI 12)]) (wr := [(m0, oo 7 (fMo ra mm nf ti so ta go sl lo cn lx ly pm pi)), (ra 27, aI E 200 bo), (ra 30, aI E 30 pl), (ra 32, aI E 6 ru)]) [] (c_X7_in E v 0 12 (by omega) (by omega) (by omega)) [] [0, 1, 2, 3] gX7_rule_X7_in rfl ⟨rfl, by decide +kernel⟩ ⟨by decide, by decide⟩ rfl rfl rfl rfl rfl (by decide) rfl (by decide) (by decide) (fun _ h => absurd h List.not_mem_nil) dX7_rule_64 rfl (Nat.le_of_ble_eq_true rfl) ⟨by decide, by decide⟩ (fun r u p_5 => ?_)
        obtain ⟨rfl, rfl⟩ := p_5
        refine g_perm (ws1 := [(m0, oo 7 (fMo ra mm nf ti so ta go sl lo cn lx ly pm pi)), (ra 27, aI E 200 bo), (ra 30, aI E 30 pl), (ra 32, aI E 6 ru)]) [0, 1, 2, 3] rfl (by decide) rfl ?_
        refine g_if_ne_b (tgt := 72) dX7_rule_67 rfl (fun c_6 => ?_) (fun c_6 => ?_)
        · refine g_iconst dX7_rule_72 ?_
          refine g_istore_n (lv1 := [(3, .int (iI 0)), (0, .ref m0), (1, .int (iI what)), (2, .int (iI v))]) dX7_rule_73 rfl (by decide) rfl ?_
          refine g_lv (lv1 := [(0, .ref m0), (1, .int (iI what)), (2, .int (iI v)), (3, .int (iI 0))]) [1, 2, 3, 0] rfl ?_
          have L74 : ∀ (nn : Nat) (i : Int) (hi : 0 ≤ i ∧ i ≤ 30) (ha : what = 0 → ∀ c, 0 ≤ c → c < i → un c ≤ v) (hm : 30 - i < (nn : Int)), G X ({ frames := 1, cells := 0, slots := 0, locals := 23 } : Room) cX7_rule 4 RX7 wsX7_rule E [] 0 0 [(m0, oo 7 (fMo ra mm nf ti so ta go sl lo cn lx ly pm pi)), (ra 27, aI E 200 bo), (ra 30, aI E 30 pl), (ra 32, aI E 6 ru)] [(0, .ref m0), (1, .int (iI what)), (2, .int (iI v)), (3, .int (iI i))] 74 [] := by
            intro nn
            induction nn with
            | zero => intro i hi ha hm; exfalso; omega
            | succ nn ih74 =>
              intro i hi ha hm
              refine g_iload_n 3 dX7_rule_74 rfl rfl ?_
              refine g_bipush dX7_rule_75 rfl ?_
              refine g_icmp_ge (tgt := 102) (by unfold R32; omega) (by unfold R32; omega) dX7_rule_77 rfl (fun c_7 => ?_) (fun c_7 => ?_)
              · refine g_iconst dX7_rule_102 ?_
                refine g_istore_n (lv1 := [(3, .int (iI 0)), (0, .ref m0), (1, .int (iI what)), (2, .int (iI v))]) dX7_rule_103 rfl (by decide) rfl ?_
                refine g_lv (lv1 := [(0, .ref m0), (1, .int (iI what)), (2, .int (iI v)), (3, .int (iI 0))]) [1, 2, 3, 0] rfl ?_
                have L104 : ∀ (nn : Nat) (j : Int) (hj : 0 ≤ j ∧ j ≤ 6) (hb : what = 1 → ∀ c, 0 ≤ c → c < j → on c ≤ v) (hm : 6 - j < (nn : Int)), G X ({ frames := 1, cells := 0, slots := 0, locals := 23 } : Room) cX7_rule 4 RX7 wsX7_rule E [] 0 0 [(m0, oo 7 (fMo ra mm nf ti so ta go sl lo cn lx ly pm pi)), (ra 27, aI E 200 bo), (ra 30, aI E 30 pl), (ra 32, aI E 6 ru)] [(0, .ref m0), (1, .int (iI what)), (2, .int (iI v)), (3, .int (iI j))] 104 [] := by
                  intro nn
                  induction nn with
                  | zero => intro j hj hb hm; exfalso; omega
                  | succ nn ih104 =>
                    intro j hj hb hm
                    refine g_iload_n 3 dX7_rule_104 rfl rfl ?_
                    refine g_bipush dX7_rule_105 rfl ?_
                    refine g_icmp_ge (tgt := 133) (by unfold R32; omega) (by unfold R32; omega) dX7_rule_107 rfl (fun c_8 => ?_) (fun c_8 => ?_)
                    · refine g_aload_n 0 dX7_rule_133 rfl rfl ?_
                      refine g_get (C := RX7) (T := TX7) (N := 43) 0 32 (fun _ h => List.mem_cons_of_mem _ (List.mem_append_right _ h)) (List.mem_of_getElem? (i := 1) rfl) rfl rfl (by decide) rfl rfl dX7_rule_134 ?_
                      refine g_iload_n 1 dX7_rule_137 rfl rfl ?_
                      refine g_iald 3 dX7_rule_138 rfl (by decide) (by omega) (by omega) ?_
                      refine g_istore_n (lv1 := [(3, .int (iI (ru what))), (0, .ref m0), (1, .int (iI what)), (2, .int (iI v))]) dX7_rule_139 rfl (by decide) rfl ?_
                      refine g_aload_n 1 dX7_rule_140 rfl rfl ?_
                      refine g_get (C := RX7) (T := TX7) (N := 43) 0 32 (fun _ h => List.mem_cons_of_mem _ (List.mem_append_right _ h)) (List.mem_of_getElem? (i := 1) rfl) rfl rfl (by decide) rfl rfl dX7_rule_141 ?_
                      refine g_iload_n 2 dX7_rule_144 rfl rfl ?_
                      refine g_iload_n 3 dX7_rule_145 rfl rfl ?_
                      refine g_iast (ws1 := [(m0, oo 7 (fMo ra mm nf ti so ta go sl lo cn lx ly pm pi)), (ra 27, aI E 200 bo), (ra 30, aI E 30 pl), (ra 32, aI E 6 (up ru what v))]) 3 dX7_rule_146 rfl rfl (by decide) (by omega) (by omega) ?_
                      refine g_iload_n 0 dX7_rule_147 rfl rfl ?_
                      exact g_iret hRet dX7_rule_148 rfl ⟨(ru what), (up ru what v), (by right; right; exact ⟨by omega, fun e c c1 c2 => ha e c c1 (by omega), fun e c c1 c2 => hb e c c1 (by omega), rfl, rfl⟩), rfl, rfl⟩
                    · refine g_iload_n 1 dX7_rule_110 rfl rfl ?_
                      refine g_iconst dX7_rule_111 ?_
                      refine g_icmp_ne (tgt := 127) (by unfold R32; omega) (by unfold R32; omega) dX7_rule_112 rfl (fun c_9 => ?_) (fun c_9 => ?_)
                      · refine g_aload_n 0 dX7_rule_115 rfl rfl ?_
                        refine g_iload_n 3 dX7_rule_116 rfl rfl ?_
                        refine g_callV_i (n := 1) (As := [.int (iI j)]) (wr := [(ra 27, aI E 200 bo), (ra 32, aI E 6 ru)]) (C := RX7) [] (c_X7_casesOn E m0 ra mm nf ti so ta go sl lo cn lx ly pm pi pl j (by omega) (by omega) (by omega)) [0, 2] [1, 3] 0 rfl rfl gX7_rule_X7_casesOn rfl ⟨rfl, by decide +kernel⟩ ⟨by decide, by decide⟩ rfl rfl rfl rfl rfl (by decide) rfl (by decide) (by decide) (fun _ h => absurd h List.not_mem_nil) dX7_rule_117 rfl (Nat.le_of_ble_eq_true rfl) ⟨by decide, by decide⟩ (fun r u p_10 => ?_)
                        obtain ⟨rfl, rfl⟩ := p_10
                        refine g_perm (ws1 := [(m0, oo 7 (fMo ra mm nf ti so ta go sl lo cn lx ly pm pi)), (ra 27, aI E 200 bo), (ra 30, aI E 30 pl), (ra 32, aI E 6 ru)]) [2, 0, 3, 1] rfl (by decide) rfl ?_
                        have hu := hon j (by omega) (by omega)
                        have hub := ctI_b pl j (show (0:Int) ≤ 30 by omega)
                        refine g_iload_n 2 dX7_rule_120 rfl rfl ?_
                        refine g_icmp_le (tgt := 127) (by unfold R32; omega) (by unfold R32; omega) dX7_rule_121 rfl (fun c_11 => ?_) (fun c_11 => ?_)
                        · refine g_iinc (lv1 := [(3, .int (iI (j + 1))), (0, .ref m0), (1, .int (iI what)), (2, .int (iI v))]) 3 dX7_rule_127 rfl (by decide) rfl ?_
                          refine g_goto (tgt := 104) dX7_rule_130 rfl ?_
                          refine g_lv (lv1 := [(0, .ref m0), (1, .int (iI what)), (2, .int (iI v)), (3, .int (iI (j + 1)))]) [1, 2, 3, 0] rfl ?_
                          exact ih104 (j + 1) (by omega) (by intro e c c1 c2; by_cases k : c = j; (rw [k]; omega); exact hb e c c1 (by omega)) (by omega)
                        · refine g_bipush dX7_rule_124 rfl ?_
                          exact g_iret hRet dX7_rule_126 rfl ⟨(-2), ru, (by right; left; exact ⟨by omega, Or.inr ⟨by omega, j, by omega, by omega, by omega⟩, rfl, rfl⟩), rfl, rfl⟩
                      · refine g_iinc (lv1 := [(3, .int (iI (j + 1))), (0, .ref m0), (1, .int (iI what)), (2, .int (iI v))]) 3 dX7_rule_127 rfl (by decide) rfl ?_
                        refine g_goto (tgt := 104) dX7_rule_130 rfl ?_
                        refine g_lv (lv1 := [(0, .ref m0), (1, .int (iI what)), (2, .int (iI v)), (3, .int (iI (j + 1)))]) [1, 2, 3, 0] rfl ?_
                        exact ih104 (j + 1) (by omega) (by intro e c c1 c2; by_cases k : c = j; (rw [k]; omega); exact hb e c c1 (by omega)) (by omega)
                exact L104 _ 0 (by omega) (by intro _ c c1 c2; omega) (lt_nn _)
              · refine g_iload_n 1 dX7_rule_80 rfl rfl ?_
                refine g_if_ne (tgt := 96) (by unfold R32; omega) dX7_rule_81 rfl (fun c_12 => ?_) (fun c_12 => ?_)
                · refine g_aload_n 0 dX7_rule_84 rfl rfl ?_
                  refine g_iload_n 3 dX7_rule_85 rfl rfl ?_
                  refine g_callV_i (n := 1) (As := [.int (iI i)]) (wr := [(ra 30, aI E 30 pl), (ra 32, aI E 6 ru)]) (C := RX7) [] (c_X7_units E m0 ra mm nf ti so ta go sl lo cn lx ly pm pi bo i (by omega) (by omega) (by omega)) [0, 1] [2, 3] 0 rfl rfl gX7_rule_X7_units rfl ⟨rfl, by decide +kernel⟩ ⟨by decide, by decide⟩ rfl rfl rfl rfl rfl (by decide) rfl (by decide) (by decide) (fun _ h => absurd h List.not_mem_nil) dX7_rule_86 rfl (Nat.le_of_ble_eq_true rfl) ⟨by decide, by decide⟩ (fun r u p_13 => ?_)
                  obtain ⟨rfl, rfl⟩ := p_13
                  refine g_perm (ws1 := [(m0, oo 7 (fMo ra mm nf ti so ta go sl lo cn lx ly pm pi)), (ra 27, aI E 200 bo), (ra 30, aI E 30 pl), (ra 32, aI E 6 ru)]) [2, 3, 0, 1] rfl (by decide) rfl ?_
                  have hu := hun i (by omega) (by omega)
                  have hub := ctI_b bo i hcn.1
                  refine g_iload_n 2 dX7_rule_89 rfl rfl ?_
                  refine g_icmp_le (tgt := 96) (by unfold R32; omega) (by unfold R32; omega) dX7_rule_90 rfl (fun c_14 => ?_) (fun c_14 => ?_)
                  · refine g_iinc (lv1 := [(3, .int (iI (i + 1))), (0, .ref m0), (1, .int (iI what)), (2, .int (iI v))]) 3 dX7_rule_96 rfl (by decide) rfl ?_
                    refine g_goto (tgt := 74) dX7_rule_99 rfl ?_
                    refine g_lv (lv1 := [(0, .ref m0), (1, .int (iI what)), (2, .int (iI v)), (3, .int (iI (i + 1)))]) [1, 2, 3, 0] rfl ?_
                    exact ih74 (i + 1) (by omega) (by intro e c c1 c2; by_cases k : c = i; (rw [k]; omega); exact ha e c c1 (by omega)) (by omega)
                  · refine g_bipush dX7_rule_93 rfl ?_
                    exact g_iret hRet dX7_rule_95 rfl ⟨(-2), ru, (by right; left; exact ⟨by omega, Or.inl ⟨by omega, i, by omega, by omega, by omega⟩, rfl, rfl⟩), rfl, rfl⟩
                · exact absurd c_4 (by assumption)
          exact L74 _ 0 (by omega) (by intro _ c c1 c2; omega) (lt_nn _)
        · refine g_iconst dX7_rule_70 ?_
          exact g_iret hRet dX7_rule_71 rfl ⟨(-1), ru, (by left; exact ⟨by omega, rfl, rfl⟩), rfl, rfl⟩
      · refine g_iload_n 1 dX7_rule_29 rfl rfl ?_
        refine g_iconst dX7_rule_30 ?_
        refine g_icmp_ne (tgt := 39) (by unfold R32; omega) (by unfold R32; omega) dX7_rule_31 rfl (fun c_15 => ?_) (fun c_15 => ?_)
        · refine g_bipush dX7_rule_34 rfl ?_
          refine g_goto (tgt := 64) dX7_rule_36 rfl ?_
          refine g_callS_i (n := 3) (As := [.int (iI v), .int (iI 0), .int (iI 20)]) (wr := [(m0, oo 7 (fMo ra mm nf ti so ta go sl lo cn lx ly pm pi)), (ra 27, aI E 200 bo), (ra 30, aI E 30 pl), (ra 32, aI E 6 ru)]) [] (c_X7_in E v 0 20 (by omega) (by omega) (by omega)) [] [0, 1, 2, 3] gX7_rule_X7_in rfl ⟨rfl, by decide +kernel⟩ ⟨by decide, by decide⟩ rfl rfl rfl rfl rfl (by decide) rfl (by decide) (by decide) (fun _ h => absurd h List.not_mem_nil) dX7_rule_64 rfl (Nat.le_of_ble_eq_true rfl) ⟨by decide, by decide⟩ (fun r u p_16 => ?_)
          obtain ⟨rfl, rfl⟩ := p_16
          refine g_perm (ws1 := [(m0, oo 7 (fMo ra mm nf ti so ta go sl lo cn lx ly pm pi)), (ra 27, aI E 200 bo), (ra 30, aI E 30 pl), (ra 32, aI E 6 ru)]) [0, 1, 2, 3] rfl (by decide) rfl ?_
          refine g_if_ne_b (tgt := 72) dX7_rule_67 rfl (fun c_17 => ?_) (fun c_17 => ?_)
          · refine g_iconst dX7_rule_72 ?_
            refine g_istore_n (lv1 := [(3, .int (iI 0)), (0, .ref m0), (1, .int (iI what)), (2, .int (iI v))]) dX7_rule_73 rfl (by decide) rfl ?_
            refine g_lv (lv1 := [(0, .ref m0), (1, .int (iI what)), (2, .int (iI v)), (3, .int (iI 0))]) [1, 2, 3, 0] rfl ?_
            have L74 : ∀ (nn : Nat) (i : Int) (hi : 0 ≤ i ∧ i ≤ 30) (ha : what = 0 → ∀ c, 0 ≤ c → c < i → un c ≤ v) (hm : 30 - i < (nn : Int)), G X ({ frames := 1, cells := 0, slots := 0, locals := 23 } : Room) cX7_rule 4 RX7 wsX7_rule E [] 0 0 [(m0, oo 7 (fMo ra mm nf ti so ta go sl lo cn lx ly pm pi)), (ra 27, aI E 200 bo), (ra 30, aI E 30 pl), (ra 32, aI E 6 ru)] [(0, .ref m0), (1, .int (iI what)), (2, .int (iI v)), (3, .int (iI i))] 74 [] := by
              intro nn
              induction nn with
              | zero => intro i hi ha hm; exfalso; omega
              | succ nn ih74 =>
                intro i hi ha hm
                refine g_iload_n 3 dX7_rule_74 rfl rfl ?_
                refine g_bipush dX7_rule_75 rfl ?_
                refine g_icmp_ge (tgt := 102) (by unfold R32; omega) (by unfold R32; omega) dX7_rule_77 rfl (fun c_18 => ?_) (fun c_18 => ?_)
                · refine g_iconst dX7_rule_102 ?_
                  refine g_istore_n (lv1 := [(3, .int (iI 0)), (0, .ref m0), (1, .int (iI what)), (2, .int (iI v))]) dX7_rule_103 rfl (by decide) rfl ?_
                  refine g_lv (lv1 := [(0, .ref m0), (1, .int (iI what)), (2, .int (iI v)), (3, .int (iI 0))]) [1, 2, 3, 0] rfl ?_
                  have L104 : ∀ (nn : Nat) (j : Int) (hj : 0 ≤ j ∧ j ≤ 6) (hb : what = 1 → ∀ c, 0 ≤ c → c < j → on c ≤ v) (hm : 6 - j < (nn : Int)), G X ({ frames := 1, cells := 0, slots := 0, locals := 23 } : Room) cX7_rule 4 RX7 wsX7_rule E [] 0 0 [(m0, oo 7 (fMo ra mm nf ti so ta go sl lo cn lx ly pm pi)), (ra 27, aI E 200 bo), (ra 30, aI E 30 pl), (ra 32, aI E 6 ru)] [(0, .ref m0), (1, .int (iI what)), (2, .int (iI v)), (3, .int (iI j))] 104 [] := by
                    intro nn
                    induction nn with
                    | zero => intro j hj hb hm; exfalso; omega
                    | succ nn ih104 =>
                      intro j hj hb hm
                      refine g_iload_n 3 dX7_rule_104 rfl rfl ?_
                      refine g_bipush dX7_rule_105 rfl ?_
                      refine g_icmp_ge (tgt := 133) (by unfold R32; omega) (by unfold R32; omega) dX7_rule_107 rfl (fun c_19 => ?_) (fun c_19 => ?_)
                      · refine g_aload_n 0 dX7_rule_133 rfl rfl ?_
                        refine g_get (C := RX7) (T := TX7) (N := 43) 0 32 (fun _ h => List.mem_cons_of_mem _ (List.mem_append_right _ h)) (List.mem_of_getElem? (i := 1) rfl) rfl rfl (by decide) rfl rfl dX7_rule_134 ?_
                        refine g_iload_n 1 dX7_rule_137 rfl rfl ?_
                        refine g_iald 3 dX7_rule_138 rfl (by decide) (by omega) (by omega) ?_
                        refine g_istore_n (lv1 := [(3, .int (iI (ru what))), (0, .ref m0), (1, .int (iI what)), (2, .int (iI v))]) dX7_rule_139 rfl (by decide) rfl ?_
                        refine g_aload_n 1 dX7_rule_140 rfl rfl ?_
                        refine g_get (C := RX7) (T := TX7) (N := 43) 0 32 (fun _ h => List.mem_cons_of_mem _ (List.mem_append_right _ h)) (List.mem_of_getElem? (i := 1) rfl) rfl rfl (by decide) rfl rfl dX7_rule_141 ?_
                        refine g_iload_n 2 dX7_rule_144 rfl rfl ?_
                        refine g_iload_n 3 dX7_rule_145 rfl rfl ?_
                        refine g_iast (ws1 := [(m0, oo 7 (fMo ra mm nf ti so ta go sl lo cn lx ly pm pi)), (ra 27, aI E 200 bo), (ra 30, aI E 30 pl), (ra 32, aI E 6 (up ru what v))]) 3 dX7_rule_146 rfl rfl (by decide) (by omega) (by omega) ?_
                        refine g_iload_n 0 dX7_rule_147 rfl rfl ?_
                        exact g_iret hRet dX7_rule_148 rfl ⟨(ru what), (up ru what v), (by right; right; exact ⟨by omega, fun e c c1 c2 => ha e c c1 (by omega), fun e c c1 c2 => hb e c c1 (by omega), rfl, rfl⟩), rfl, rfl⟩
                      · refine g_iload_n 1 dX7_rule_110 rfl rfl ?_
                        refine g_iconst dX7_rule_111 ?_
                        refine g_icmp_ne (tgt := 127) (by unfold R32; omega) (by unfold R32; omega) dX7_rule_112 rfl (fun c_20 => ?_) (fun c_20 => ?_)
                        · refine g_aload_n 0 dX7_rule_115 rfl rfl ?_
                          refine g_iload_n 3 dX7_rule_116 rfl rfl ?_
                          refine g_callV_i (n := 1) (As := [.int (iI j)]) (wr := [(ra 27, aI E 200 bo), (ra 32, aI E 6 ru)]) (C := RX7) [] (c_X7_casesOn E m0 ra mm nf ti so ta go sl lo cn lx ly pm pi pl j (by omega) (by omega) (by omega)) [0, 2] [1, 3] 0 rfl rfl gX7_rule_X7_casesOn rfl ⟨rfl, by decide +kernel⟩ ⟨by decide, by decide⟩ rfl rfl rfl rfl rfl (by decide) rfl (by decide) (by decide) (fun _ h => absurd h List.not_mem_nil) dX7_rule_117 rfl (Nat.le_of_ble_eq_true rfl) ⟨by decide, by decide⟩ (fun r u p_21 => ?_)
                          obtain ⟨rfl, rfl⟩ := p_21
                          refine g_perm (ws1 := [(m0, oo 7 (fMo ra mm nf ti so ta go sl lo cn lx ly pm pi)), (ra 27, aI E 200 bo), (ra 30, aI E 30 pl), (ra 32, aI E 6 ru)]) [2, 0, 3, 1] rfl (by decide) rfl ?_
                          have hu := hon j (by omega) (by omega)
                          have hub := ctI_b pl j (show (0:Int) ≤ 30 by omega)
                          refine g_iload_n 2 dX7_rule_120 rfl rfl ?_
                          refine g_icmp_le (tgt := 127) (by unfold R32; omega) (by unfold R32; omega) dX7_rule_121 rfl (fun c_22 => ?_) (fun c_22 => ?_)
                          · refine g_iinc (lv1 := [(3, .int (iI (j + 1))), (0, .ref m0), (1, .int (iI what)), (2, .int (iI v))]) 3 dX7_rule_127 rfl (by decide) rfl ?_
                            refine g_goto (tgt := 104) dX7_rule_130 rfl ?_
                            refine g_lv (lv1 := [(0, .ref m0), (1, .int (iI what)), (2, .int (iI v)), (3, .int (iI (j + 1)))]) [1, 2, 3, 0] rfl ?_
                            exact ih104 (j + 1) (by omega) (by intro e c c1 c2; by_cases k : c = j; (rw [k]; omega); exact hb e c c1 (by omega)) (by omega)
                          · refine g_bipush dX7_rule_124 rfl ?_
                            exact g_iret hRet dX7_rule_126 rfl ⟨(-2), ru, (by right; left; exact ⟨by omega, Or.inr ⟨by omega, j, by omega, by omega, by omega⟩, rfl, rfl⟩), rfl, rfl⟩
                        · exact absurd c_15 (by assumption)
                  exact L104 _ 0 (by omega) (by intro _ c c1 c2; omega) (lt_nn _)
                · refine g_iload_n 1 dX7_rule_80 rfl rfl ?_
                  refine g_if_ne (tgt := 96) (by unfold R32; omega) dX7_rule_81 rfl (fun c_23 => ?_) (fun c_23 => ?_)
                  · exact absurd (by assumption) c_4
                  · refine g_iinc (lv1 := [(3, .int (iI (i + 1))), (0, .ref m0), (1, .int (iI what)), (2, .int (iI v))]) 3 dX7_rule_96 rfl (by decide) rfl ?_
                    refine g_goto (tgt := 74) dX7_rule_99 rfl ?_
                    refine g_lv (lv1 := [(0, .ref m0), (1, .int (iI what)), (2, .int (iI v)), (3, .int (iI (i + 1)))]) [1, 2, 3, 0] rfl ?_
                    exact ih74 (i + 1) (by omega) (by intro e c c1 c2; by_cases k : c = i; (rw [k]; omega); exact ha e c c1 (by omega)) (by omega)
            exact L74 _ 0 (by omega) (by intro _ c c1 c2; omega) (lt_nn _)
          · refine g_iconst dX7_rule_70 ?_
            exact g_iret hRet dX7_rule_71 rfl ⟨(-1), ru, (by left; exact ⟨by omega, rfl, rfl⟩), rfl, rfl⟩
        · refine g_iload_n 1 dX7_rule_39 rfl rfl ?_
          refine g_iconst dX7_rule_40 ?_
          refine g_icmp_ge (tgt := 50) (by unfold R32; omega) (by unfold R32; omega) dX7_rule_41 rfl (fun c_24 => ?_) (fun c_24 => ?_)
          · refine g_iload_n 1 dX7_rule_50 rfl rfl ?_
            refine g_iconst dX7_rule_51 ?_
            refine g_icmp_ne (tgt := 61) (by unfold R32; omega) (by unfold R32; omega) dX7_rule_52 rfl (fun c_25 => ?_) (fun c_25 => ?_)
            · refine g_sipush dX7_rule_55 rfl ?_
              refine g_goto (tgt := 64) dX7_rule_58 rfl ?_
              refine g_callS_i (n := 3) (As := [.int (iI v), .int (iI 0), .int (iI 1000)]) (wr := [(m0, oo 7 (fMo ra mm nf ti so ta go sl lo cn lx ly pm pi)), (ra 27, aI E 200 bo), (ra 30, aI E 30 pl), (ra 32, aI E 6 ru)]) [] (c_X7_in E v 0 1000 (by omega) (by omega) (by omega)) [] [0, 1, 2, 3] gX7_rule_X7_in rfl ⟨rfl, by decide +kernel⟩ ⟨by decide, by decide⟩ rfl rfl rfl rfl rfl (by decide) rfl (by decide) (by decide) (fun _ h => absurd h List.not_mem_nil) dX7_rule_64 rfl (Nat.le_of_ble_eq_true rfl) ⟨by decide, by decide⟩ (fun r u p_26 => ?_)
              obtain ⟨rfl, rfl⟩ := p_26
              refine g_perm (ws1 := [(m0, oo 7 (fMo ra mm nf ti so ta go sl lo cn lx ly pm pi)), (ra 27, aI E 200 bo), (ra 30, aI E 30 pl), (ra 32, aI E 6 ru)]) [0, 1, 2, 3] rfl (by decide) rfl ?_
              refine g_if_ne_b (tgt := 72) dX7_rule_67 rfl (fun c_27 => ?_) (fun c_27 => ?_)
              · refine g_iconst dX7_rule_72 ?_
                refine g_istore_n (lv1 := [(3, .int (iI 0)), (0, .ref m0), (1, .int (iI what)), (2, .int (iI v))]) dX7_rule_73 rfl (by decide) rfl ?_
                refine g_lv (lv1 := [(0, .ref m0), (1, .int (iI what)), (2, .int (iI v)), (3, .int (iI 0))]) [1, 2, 3, 0] rfl ?_
                have L74 : ∀ (nn : Nat) (i : Int) (hi : 0 ≤ i ∧ i ≤ 30) (ha : what = 0 → ∀ c, 0 ≤ c → c < i → un c ≤ v) (hm : 30 - i < (nn : Int)), G X ({ frames := 1, cells := 0, slots := 0, locals := 23 } : Room) cX7_rule 4 RX7 wsX7_rule E [] 0 0 [(m0, oo 7 (fMo ra mm nf ti so ta go sl lo cn lx ly pm pi)), (ra 27, aI E 200 bo), (ra 30, aI E 30 pl), (ra 32, aI E 6 ru)] [(0, .ref m0), (1, .int (iI what)), (2, .int (iI v)), (3, .int (iI i))] 74 [] := by
                  intro nn
                  induction nn with
                  | zero => intro i hi ha hm; exfalso; omega
                  | succ nn ih74 =>
                    intro i hi ha hm
                    refine g_iload_n 3 dX7_rule_74 rfl rfl ?_
                    refine g_bipush dX7_rule_75 rfl ?_
                    refine g_icmp_ge (tgt := 102) (by unfold R32; omega) (by unfold R32; omega) dX7_rule_77 rfl (fun c_28 => ?_) (fun c_28 => ?_)
                    · refine g_iconst dX7_rule_102 ?_
                      refine g_istore_n (lv1 := [(3, .int (iI 0)), (0, .ref m0), (1, .int (iI what)), (2, .int (iI v))]) dX7_rule_103 rfl (by decide) rfl ?_
                      refine g_lv (lv1 := [(0, .ref m0), (1, .int (iI what)), (2, .int (iI v)), (3, .int (iI 0))]) [1, 2, 3, 0] rfl ?_
                      have L104 : ∀ (nn : Nat) (j : Int) (hj : 0 ≤ j ∧ j ≤ 6) (hb : what = 1 → ∀ c, 0 ≤ c → c < j → on c ≤ v) (hm : 6 - j < (nn : Int)), G X ({ frames := 1, cells := 0, slots := 0, locals := 23 } : Room) cX7_rule 4 RX7 wsX7_rule E [] 0 0 [(m0, oo 7 (fMo ra mm nf ti so ta go sl lo cn lx ly pm pi)), (ra 27, aI E 200 bo), (ra 30, aI E 30 pl), (ra 32, aI E 6 ru)] [(0, .ref m0), (1, .int (iI what)), (2, .int (iI v)), (3, .int (iI j))] 104 [] := by
                        intro nn
                        induction nn with
                        | zero => intro j hj hb hm; exfalso; omega
                        | succ nn ih104 =>
                          intro j hj hb hm
                          refine g_iload_n 3 dX7_rule_104 rfl rfl ?_
                          refine g_bipush dX7_rule_105 rfl ?_
                          refine g_icmp_ge (tgt := 133) (by unfold R32; omega) (by unfold R32; omega) dX7_rule_107 rfl (fun c_29 => ?_) (fun c_29 => ?_)
                          · refine g_aload_n 0 dX7_rule_133 rfl rfl ?_
                            refine g_get (C := RX7) (T := TX7) (N := 43) 0 32 (fun _ h => List.mem_cons_of_mem _ (List.mem_append_right _ h)) (List.mem_of_getElem? (i := 1) rfl) rfl rfl (by decide) rfl rfl dX7_rule_134 ?_
                            refine g_iload_n 1 dX7_rule_137 rfl rfl ?_
                            refine g_iald 3 dX7_rule_138 rfl (by decide) (by omega) (by omega) ?_
                            refine g_istore_n (lv1 := [(3, .int (iI (ru what))), (0, .ref m0), (1, .int (iI what)), (2, .int (iI v))]) dX7_rule_139 rfl (by decide) rfl ?_
                            refine g_aload_n 1 dX7_rule_140 rfl rfl ?_
                            refine g_get (C := RX7) (T := TX7) (N := 43) 0 32 (fun _ h => List.mem_cons_of_mem _ (List.mem_append_right _ h)) (List.mem_of_getElem? (i := 1) rfl) rfl rfl (by decide) rfl rfl dX7_rule_141 ?_
                            refine g_iload_n 2 dX7_rule_144 rfl rfl ?_
                            refine g_iload_n 3 dX7_rule_145 rfl rfl ?_
                            refine g_iast (ws1 := [(m0, oo 7 (fMo ra mm nf ti so ta go sl lo cn lx ly pm pi)), (ra 27, aI E 200 bo), (ra 30, aI E 30 pl), (ra 32, aI E 6 (up ru what v))]) 3 dX7_rule_146 rfl rfl (by decide) (by omega) (by omega) ?_
                            refine g_iload_n 0 dX7_rule_147 rfl rfl ?_
                            exact g_iret hRet dX7_rule_148 rfl ⟨(ru what), (up ru what v), (by right; right; exact ⟨by omega, fun e c c1 c2 => ha e c c1 (by omega), fun e c c1 c2 => hb e c c1 (by omega), rfl, rfl⟩), rfl, rfl⟩
                          · refine g_iload_n 1 dX7_rule_110 rfl rfl ?_
                            refine g_iconst dX7_rule_111 ?_
                            refine g_icmp_ne (tgt := 127) (by unfold R32; omega) (by unfold R32; omega) dX7_rule_112 rfl (fun c_30 => ?_) (fun c_30 => ?_)
                            · exact absurd (by assumption) c_15
                            · refine g_iinc (lv1 := [(3, .int (iI (j + 1))), (0, .ref m0), (1, .int (iI what)), (2, .int (iI v))]) 3 dX7_rule_127 rfl (by decide) rfl ?_
                              refine g_goto (tgt := 104) dX7_rule_130 rfl ?_
                              refine g_lv (lv1 := [(0, .ref m0), (1, .int (iI what)), (2, .int (iI v)), (3, .int (iI (j + 1)))]) [1, 2, 3, 0] rfl ?_
                              exact ih104 (j + 1) (by omega) (by intro e c c1 c2; by_cases k : c = j; (rw [k]; omega); exact hb e c c1 (by omega)) (by omega)
                      exact L104 _ 0 (by omega) (by intro _ c c1 c2; omega) (lt_nn _)
                    · refine g_iload_n 1 dX7_rule_80 rfl rfl ?_
                      refine g_if_ne (tgt := 96) (by unfold R32; omega) dX7_rule_81 rfl (fun c_31 => ?_) (fun c_31 => ?_)
                      · exact absurd (by assumption) c_4
                      · refine g_iinc (lv1 := [(3, .int (iI (i + 1))), (0, .ref m0), (1, .int (iI what)), (2, .int (iI v))]) 3 dX7_rule_96 rfl (by decide) rfl ?_
                        refine g_goto (tgt := 74) dX7_rule_99 rfl ?_
                        refine g_lv (lv1 := [(0, .ref m0), (1, .int (iI what)), (2, .int (iI v)), (3, .int (iI (i + 1)))]) [1, 2, 3, 0] rfl ?_
                        exact ih74 (i + 1) (by omega) (by intro e c c1 c2; by_cases k : c = i; (rw [k]; omega); exact ha e c c1 (by omega)) (by omega)
                exact L74 _ 0 (by omega) (by intro _ c c1 c2; omega) (lt_nn _)
              · refine g_iconst dX7_rule_70 ?_
                exact g_iret hRet dX7_rule_71 rfl ⟨(-1), ru, (by left; exact ⟨by omega, rfl, rfl⟩), rfl, rfl⟩
            · refine g_sipush dX7_rule_61 rfl ?_
              refine g_callS_i (n := 3) (As := [.int (iI v), .int (iI 0), .int (iI 500)]) (wr := [(m0, oo 7 (fMo ra mm nf ti so ta go sl lo cn lx ly pm pi)), (ra 27, aI E 200 bo), (ra 30, aI E 30 pl), (ra 32, aI E 6 ru)]) [] (c_X7_in E v 0 500 (by omega) (by omega) (by omega)) [] [0, 1, 2, 3] gX7_rule_X7_in rfl ⟨rfl, by decide +kernel⟩ ⟨by decide, by decide⟩ rfl rfl rfl rfl rfl (by decide) rfl (by decide) (by decide) (fun _ h => absurd h List.not_mem_nil) dX7_rule_64 rfl (Nat.le_of_ble_eq_true rfl) ⟨by decide, by decide⟩ (fun r u p_32 => ?_)
              obtain ⟨rfl, rfl⟩ := p_32
              refine g_perm (ws1 := [(m0, oo 7 (fMo ra mm nf ti so ta go sl lo cn lx ly pm pi)), (ra 27, aI E 200 bo), (ra 30, aI E 30 pl), (ra 32, aI E 6 ru)]) [0, 1, 2, 3] rfl (by decide) rfl ?_
              refine g_if_ne_b (tgt := 72) dX7_rule_67 rfl (fun c_33 => ?_) (fun c_33 => ?_)
              · refine g_iconst dX7_rule_72 ?_
                refine g_istore_n (lv1 := [(3, .int (iI 0)), (0, .ref m0), (1, .int (iI what)), (2, .int (iI v))]) dX7_rule_73 rfl (by decide) rfl ?_
                refine g_lv (lv1 := [(0, .ref m0), (1, .int (iI what)), (2, .int (iI v)), (3, .int (iI 0))]) [1, 2, 3, 0] rfl ?_
                have L74 : ∀ (nn : Nat) (i : Int) (hi : 0 ≤ i ∧ i ≤ 30) (ha : what = 0 → ∀ c, 0 ≤ c → c < i → un c ≤ v) (hm : 30 - i < (nn : Int)), G X ({ frames := 1, cells := 0, slots := 0, locals := 23 } : Room) cX7_rule 4 RX7 wsX7_rule E [] 0 0 [(m0, oo 7 (fMo ra mm nf ti so ta go sl lo cn lx ly pm pi)), (ra 27, aI E 200 bo), (ra 30, aI E 30 pl), (ra 32, aI E 6 ru)] [(0, .ref m0), (1, .int (iI what)), (2, .int (iI v)), (3, .int (iI i))] 74 [] := by
                  intro nn
                  induction nn with
                  | zero => intro i hi ha hm; exfalso; omega
                  | succ nn ih74 =>
                    intro i hi ha hm
                    refine g_iload_n 3 dX7_rule_74 rfl rfl ?_
                    refine g_bipush dX7_rule_75 rfl ?_
                    refine g_icmp_ge (tgt := 102) (by unfold R32; omega) (by unfold R32; omega) dX7_rule_77 rfl (fun c_34 => ?_) (fun c_34 => ?_)
                    · refine g_iconst dX7_rule_102 ?_
                      refine g_istore_n (lv1 := [(3, .int (iI 0)), (0, .ref m0), (1, .int (iI what)), (2, .int (iI v))]) dX7_rule_103 rfl (by decide) rfl ?_
                      refine g_lv (lv1 := [(0, .ref m0), (1, .int (iI what)), (2, .int (iI v)), (3, .int (iI 0))]) [1, 2, 3, 0] rfl ?_
                      have L104 : ∀ (nn : Nat) (j : Int) (hj : 0 ≤ j ∧ j ≤ 6) (hb : what = 1 → ∀ c, 0 ≤ c → c < j → on c ≤ v) (hm : 6 - j < (nn : Int)), G X ({ frames := 1, cells := 0, slots := 0, locals := 23 } : Room) cX7_rule 4 RX7 wsX7_rule E [] 0 0 [(m0, oo 7 (fMo ra mm nf ti so ta go sl lo cn lx ly pm pi)), (ra 27, aI E 200 bo), (ra 30, aI E 30 pl), (ra 32, aI E 6 ru)] [(0, .ref m0), (1, .int (iI what)), (2, .int (iI v)), (3, .int (iI j))] 104 [] := by
                        intro nn
                        induction nn with
                        | zero => intro j hj hb hm; exfalso; omega
                        | succ nn ih104 =>
                          intro j hj hb hm
                          refine g_iload_n 3 dX7_rule_104 rfl rfl ?_
                          refine g_bipush dX7_rule_105 rfl ?_
                          refine g_icmp_ge (tgt := 133) (by unfold R32; omega) (by unfold R32; omega) dX7_rule_107 rfl (fun c_35 => ?_) (fun c_35 => ?_)
                          · refine g_aload_n 0 dX7_rule_133 rfl rfl ?_
                            refine g_get (C := RX7) (T := TX7) (N := 43) 0 32 (fun _ h => List.mem_cons_of_mem _ (List.mem_append_right _ h)) (List.mem_of_getElem? (i := 1) rfl) rfl rfl (by decide) rfl rfl dX7_rule_134 ?_
                            refine g_iload_n 1 dX7_rule_137 rfl rfl ?_
                            refine g_iald 3 dX7_rule_138 rfl (by decide) (by omega) (by omega) ?_
                            refine g_istore_n (lv1 := [(3, .int (iI (ru what))), (0, .ref m0), (1, .int (iI what)), (2, .int (iI v))]) dX7_rule_139 rfl (by decide) rfl ?_
                            refine g_aload_n 1 dX7_rule_140 rfl rfl ?_
                            refine g_get (C := RX7) (T := TX7) (N := 43) 0 32 (fun _ h => List.mem_cons_of_mem _ (List.mem_append_right _ h)) (List.mem_of_getElem? (i := 1) rfl) rfl rfl (by decide) rfl rfl dX7_rule_141 ?_
                            refine g_iload_n 2 dX7_rule_144 rfl rfl ?_
                            refine g_iload_n 3 dX7_rule_145 rfl rfl ?_
                            refine g_iast (ws1 := [(m0, oo 7 (fMo ra mm nf ti so ta go sl lo cn lx ly pm pi)), (ra 27, aI E 200 bo), (ra 30, aI E 30 pl), (ra 32, aI E 6 (up ru what v))]) 3 dX7_rule_146 rfl rfl (by decide) (by omega) (by omega) ?_
                            refine g_iload_n 0 dX7_rule_147 rfl rfl ?_
                            exact g_iret hRet dX7_rule_148 rfl ⟨(ru what), (up ru what v), (by right; right; exact ⟨by omega, fun e c c1 c2 => ha e c c1 (by omega), fun e c c1 c2 => hb e c c1 (by omega), rfl, rfl⟩), rfl, rfl⟩
                          · refine g_iload_n 1 dX7_rule_110 rfl rfl ?_
                            refine g_iconst dX7_rule_111 ?_
                            refine g_icmp_ne (tgt := 127) (by unfold R32; omega) (by unfold R32; omega) dX7_rule_112 rfl (fun c_36 => ?_) (fun c_36 => ?_)
                            · exact absurd (by assumption) c_15
                            · refine g_iinc (lv1 := [(3, .int (iI (j + 1))), (0, .ref m0), (1, .int (iI what)), (2, .int (iI v))]) 3 dX7_rule_127 rfl (by decide) rfl ?_
                              refine g_goto (tgt := 104) dX7_rule_130 rfl ?_
                              refine g_lv (lv1 := [(0, .ref m0), (1, .int (iI what)), (2, .int (iI v)), (3, .int (iI (j + 1)))]) [1, 2, 3, 0] rfl ?_
                              exact ih104 (j + 1) (by omega) (by intro e c c1 c2; by_cases k : c = j; (rw [k]; omega); exact hb e c c1 (by omega)) (by omega)
                      exact L104 _ 0 (by omega) (by intro _ c c1 c2; omega) (lt_nn _)
                    · refine g_iload_n 1 dX7_rule_80 rfl rfl ?_
                      refine g_if_ne (tgt := 96) (by unfold R32; omega) dX7_rule_81 rfl (fun c_37 => ?_) (fun c_37 => ?_)
                      · exact absurd (by assumption) c_4
                      · refine g_iinc (lv1 := [(3, .int (iI (i + 1))), (0, .ref m0), (1, .int (iI what)), (2, .int (iI v))]) 3 dX7_rule_96 rfl (by decide) rfl ?_
                        refine g_goto (tgt := 74) dX7_rule_99 rfl ?_
                        refine g_lv (lv1 := [(0, .ref m0), (1, .int (iI what)), (2, .int (iI v)), (3, .int (iI (i + 1)))]) [1, 2, 3, 0] rfl ?_
                        exact ih74 (i + 1) (by omega) (by intro e c c1 c2; by_cases k : c = i; (rw [k]; omega); exact ha e c c1 (by omega)) (by omega)
                exact L74 _ 0 (by omega) (by intro _ c c1 c2; omega) (lt_nn _)
              · refine g_iconst dX7_rule_70 ?_
                exact g_iret hRet dX7_rule_71 rfl ⟨(-1), ru, (by left; exact ⟨by omega, rfl, rfl⟩), rfl, rfl⟩
          · refine g_sipush dX7_rule_44 rfl ?_
            refine g_goto (tgt := 64) dX7_rule_47 rfl ?_
            refine g_callS_i (n := 3) (As := [.int (iI v), .int (iI 0), .int (iI 10000)]) (wr := [(m0, oo 7 (fMo ra mm nf ti so ta go sl lo cn lx ly pm pi)), (ra 27, aI E 200 bo), (ra 30, aI E 30 pl), (ra 32, aI E 6 ru)]) [] (c_X7_in E v 0 10000 (by omega) (by omega) (by omega)) [] [0, 1, 2, 3] gX7_rule_X7_in rfl ⟨rfl, by decide +kernel⟩ ⟨by decide, by decide⟩ rfl rfl rfl rfl rfl (by decide) rfl (by decide) (by decide) (fun _ h => absurd h List.not_mem_nil) dX7_rule_64 rfl (Nat.le_of_ble_eq_true rfl) ⟨by decide, by decide⟩ (fun r u p_38 => ?_)
            obtain ⟨rfl, rfl⟩ := p_38
            refine g_perm (ws1 := [(m0, oo 7 (fMo ra mm nf ti so ta go sl lo cn lx ly pm pi)), (ra 27, aI E 200 bo), (ra 30, aI E 30 pl), (ra 32, aI E 6 ru)]) [0, 1, 2, 3] rfl (by decide) rfl ?_
            refine g_if_ne_b (tgt := 72) dX7_rule_67 rfl (fun c_39 => ?_) (fun c_39 => ?_)
            · refine g_iconst dX7_rule_72 ?_
              refine g_istore_n (lv1 := [(3, .int (iI 0)), (0, .ref m0), (1, .int (iI what)), (2, .int (iI v))]) dX7_rule_73 rfl (by decide) rfl ?_
              refine g_lv (lv1 := [(0, .ref m0), (1, .int (iI what)), (2, .int (iI v)), (3, .int (iI 0))]) [1, 2, 3, 0] rfl ?_
              have L74 : ∀ (nn : Nat) (i : Int) (hi : 0 ≤ i ∧ i ≤ 30) (ha : what = 0 → ∀ c, 0 ≤ c → c < i → un c ≤ v) (hm : 30 - i < (nn : Int)), G X ({ frames := 1, cells := 0, slots := 0, locals := 23 } : Room) cX7_rule 4 RX7 wsX7_rule E [] 0 0 [(m0, oo 7 (fMo ra mm nf ti so ta go sl lo cn lx ly pm pi)), (ra 27, aI E 200 bo), (ra 30, aI E 30 pl), (ra 32, aI E 6 ru)] [(0, .ref m0), (1, .int (iI what)), (2, .int (iI v)), (3, .int (iI i))] 74 [] := by
                intro nn
                induction nn with
                | zero => intro i hi ha hm; exfalso; omega
                | succ nn ih74 =>
                  intro i hi ha hm
                  refine g_iload_n 3 dX7_rule_74 rfl rfl ?_
                  refine g_bipush dX7_rule_75 rfl ?_
                  refine g_icmp_ge (tgt := 102) (by unfold R32; omega) (by unfold R32; omega) dX7_rule_77 rfl (fun c_40 => ?_) (fun c_40 => ?_)
                  · refine g_iconst dX7_rule_102 ?_
                    refine g_istore_n (lv1 := [(3, .int (iI 0)), (0, .ref m0), (1, .int (iI what)), (2, .int (iI v))]) dX7_rule_103 rfl (by decide) rfl ?_
                    refine g_lv (lv1 := [(0, .ref m0), (1, .int (iI what)), (2, .int (iI v)), (3, .int (iI 0))]) [1, 2, 3, 0] rfl ?_
                    have L104 : ∀ (nn : Nat) (j : Int) (hj : 0 ≤ j ∧ j ≤ 6) (hb : what = 1 → ∀ c, 0 ≤ c → c < j → on c ≤ v) (hm : 6 - j < (nn : Int)), G X ({ frames := 1, cells := 0, slots := 0, locals := 23 } : Room) cX7_rule 4 RX7 wsX7_rule E [] 0 0 [(m0, oo 7 (fMo ra mm nf ti so ta go sl lo cn lx ly pm pi)), (ra 27, aI E 200 bo), (ra 30, aI E 30 pl), (ra 32, aI E 6 ru)] [(0, .ref m0), (1, .int (iI what)), (2, .int (iI v)), (3, .int (iI j))] 104 [] := by
                      intro nn
                      induction nn with
                      | zero => intro j hj hb hm; exfalso; omega
                      | succ nn ih104 =>
                        intro j hj hb hm
                        refine g_iload_n 3 dX7_rule_104 rfl rfl ?_
                        refine g_bipush dX7_rule_105 rfl ?_
                        refine g_icmp_ge (tgt := 133) (by unfold R32; omega) (by unfold R32; omega) dX7_rule_107 rfl (fun c_41 => ?_) (fun c_41 => ?_)
                        · refine g_aload_n 0 dX7_rule_133 rfl rfl ?_
                          refine g_get (C := RX7) (T := TX7) (N := 43) 0 32 (fun _ h => List.mem_cons_of_mem _ (List.mem_append_right _ h)) (List.mem_of_getElem? (i := 1) rfl) rfl rfl (by decide) rfl rfl dX7_rule_134 ?_
                          refine g_iload_n 1 dX7_rule_137 rfl rfl ?_
                          refine g_iald 3 dX7_rule_138 rfl (by decide) (by omega) (by omega) ?_
                          refine g_istore_n (lv1 := [(3, .int (iI (ru what))), (0, .ref m0), (1, .int (iI what)), (2, .int (iI v))]) dX7_rule_139 rfl (by decide) rfl ?_
                          refine g_aload_n 1 dX7_rule_140 rfl rfl ?_
                          refine g_get (C := RX7) (T := TX7) (N := 43) 0 32 (fun _ h => List.mem_cons_of_mem _ (List.mem_append_right _ h)) (List.mem_of_getElem? (i := 1) rfl) rfl rfl (by decide) rfl rfl dX7_rule_141 ?_
                          refine g_iload_n 2 dX7_rule_144 rfl rfl ?_
                          refine g_iload_n 3 dX7_rule_145 rfl rfl ?_
                          refine g_iast (ws1 := [(m0, oo 7 (fMo ra mm nf ti so ta go sl lo cn lx ly pm pi)), (ra 27, aI E 200 bo), (ra 30, aI E 30 pl), (ra 32, aI E 6 (up ru what v))]) 3 dX7_rule_146 rfl rfl (by decide) (by omega) (by omega) ?_
                          refine g_iload_n 0 dX7_rule_147 rfl rfl ?_
                          exact g_iret hRet dX7_rule_148 rfl ⟨(ru what), (up ru what v), (by right; right; exact ⟨by omega, fun e c c1 c2 => ha e c c1 (by omega), fun e c c1 c2 => hb e c c1 (by omega), rfl, rfl⟩), rfl, rfl⟩
                        · refine g_iload_n 1 dX7_rule_110 rfl rfl ?_
                          refine g_iconst dX7_rule_111 ?_
                          refine g_icmp_ne (tgt := 127) (by unfold R32; omega) (by unfold R32; omega) dX7_rule_112 rfl (fun c_42 => ?_) (fun c_42 => ?_)
                          · exact absurd (by assumption) c_15
                          · refine g_iinc (lv1 := [(3, .int (iI (j + 1))), (0, .ref m0), (1, .int (iI what)), (2, .int (iI v))]) 3 dX7_rule_127 rfl (by decide) rfl ?_
                            refine g_goto (tgt := 104) dX7_rule_130 rfl ?_
                            refine g_lv (lv1 := [(0, .ref m0), (1, .int (iI what)), (2, .int (iI v)), (3, .int (iI (j + 1)))]) [1, 2, 3, 0] rfl ?_
                            exact ih104 (j + 1) (by omega) (by intro e c c1 c2; by_cases k : c = j; (rw [k]; omega); exact hb e c c1 (by omega)) (by omega)
                    exact L104 _ 0 (by omega) (by intro _ c c1 c2; omega) (lt_nn _)
                  · refine g_iload_n 1 dX7_rule_80 rfl rfl ?_
                    refine g_if_ne (tgt := 96) (by unfold R32; omega) dX7_rule_81 rfl (fun c_43 => ?_) (fun c_43 => ?_)
                    · exact absurd (by assumption) c_4
                    · refine g_iinc (lv1 := [(3, .int (iI (i + 1))), (0, .ref m0), (1, .int (iI what)), (2, .int (iI v))]) 3 dX7_rule_96 rfl (by decide) rfl ?_
                      refine g_goto (tgt := 74) dX7_rule_99 rfl ?_
                      refine g_lv (lv1 := [(0, .ref m0), (1, .int (iI what)), (2, .int (iI v)), (3, .int (iI (i + 1)))]) [1, 2, 3, 0] rfl ?_
                      exact ih74 (i + 1) (by omega) (by intro e c c1 c2; by_cases k : c = i; (rw [k]; omega); exact ha e c c1 (by omega)) (by omega)
              exact L74 _ 0 (by omega) (by intro _ c c1 c2; omega) (lt_nn _)
            · refine g_iconst dX7_rule_70 ?_
              exact g_iret hRet dX7_rule_71 rfl ⟨(-1), ru, (by left; exact ⟨by omega, rfl, rfl⟩), rfl, rfl⟩
    · refine g_iconst dX7_rule_15 ?_
      refine g_goto (tgt := 20) dX7_rule_16 rfl ?_
      refine g_iload_n 1 dX7_rule_20 rfl rfl ?_
      refine g_if_ne (tgt := 29) (by unfold R32; omega) dX7_rule_21 rfl (fun c_44 => ?_) (fun c_44 => ?_)
      · refine g_bipush dX7_rule_24 rfl ?_
        refine g_goto (tgt := 64) dX7_rule_26 rfl ?_
        refine g_callS_i (n := 3) (As := [.int (iI v), .int (iI 1), .int (iI 12)]) (wr := [(m0, oo 7 (fMo ra mm nf ti so ta go sl lo cn lx ly pm pi)), (ra 27, aI E 200 bo), (ra 30, aI E 30 pl), (ra 32, aI E 6 ru)]) [] (c_X7_in E v 1 12 (by omega) (by omega) (by omega)) [] [0, 1, 2, 3] gX7_rule_X7_in rfl ⟨rfl, by decide +kernel⟩ ⟨by decide, by decide⟩ rfl rfl rfl rfl rfl (by decide) rfl (by decide) (by decide) (fun _ h => absurd h List.not_mem_nil) dX7_rule_64 rfl (Nat.le_of_ble_eq_true rfl) ⟨by decide, by decide⟩ (fun r u p_45 => ?_)
        obtain ⟨rfl, rfl⟩ := p_45
        refine g_perm (ws1 := [(m0, oo 7 (fMo ra mm nf ti so ta go sl lo cn lx ly pm pi)), (ra 27, aI E 200 bo), (ra 30, aI E 30 pl), (ra 32, aI E 6 ru)]) [0, 1, 2, 3] rfl (by decide) rfl ?_
        refine g_if_ne_b (tgt := 72) dX7_rule_67 rfl (fun c_46 => ?_) (fun c_46 => ?_)
        · refine g_iconst dX7_rule_72 ?_
          refine g_istore_n (lv1 := [(3, .int (iI 0)), (0, .ref m0), (1, .int (iI what)), (2, .int (iI v))]) dX7_rule_73 rfl (by decide) rfl ?_
          refine g_lv (lv1 := [(0, .ref m0), (1, .int (iI what)), (2, .int (iI v)), (3, .int (iI 0))]) [1, 2, 3, 0] rfl ?_
          have L74 : ∀ (nn : Nat) (i : Int) (hi : 0 ≤ i ∧ i ≤ 30) (ha : what = 0 → ∀ c, 0 ≤ c → c < i → un c ≤ v) (hm : 30 - i < (nn : Int)), G X ({ frames := 1, cells := 0, slots := 0, locals := 23 } : Room) cX7_rule 4 RX7 wsX7_rule E [] 0 0 [(m0, oo 7 (fMo ra mm nf ti so ta go sl lo cn lx ly pm pi)), (ra 27, aI E 200 bo), (ra 30, aI E 30 pl), (ra 32, aI E 6 ru)] [(0, .ref m0), (1, .int (iI what)), (2, .int (iI v)), (3, .int (iI i))] 74 [] := by
            intro nn
            induction nn with
            | zero => intro i hi ha hm; exfalso; omega
            | succ nn ih74 =>
              intro i hi ha hm
              refine g_iload_n 3 dX7_rule_74 rfl rfl ?_
              refine g_bipush dX7_rule_75 rfl ?_
              refine g_icmp_ge (tgt := 102) (by unfold R32; omega) (by unfold R32; omega) dX7_rule_77 rfl (fun c_47 => ?_) (fun c_47 => ?_)
              · refine g_iconst dX7_rule_102 ?_
                refine g_istore_n (lv1 := [(3, .int (iI 0)), (0, .ref m0), (1, .int (iI what)), (2, .int (iI v))]) dX7_rule_103 rfl (by decide) rfl ?_
                refine g_lv (lv1 := [(0, .ref m0), (1, .int (iI what)), (2, .int (iI v)), (3, .int (iI 0))]) [1, 2, 3, 0] rfl ?_
                have L104 : ∀ (nn : Nat) (j : Int) (hj : 0 ≤ j ∧ j ≤ 6) (hb : what = 1 → ∀ c, 0 ≤ c → c < j → on c ≤ v) (hm : 6 - j < (nn : Int)), G X ({ frames := 1, cells := 0, slots := 0, locals := 23 } : Room) cX7_rule 4 RX7 wsX7_rule E [] 0 0 [(m0, oo 7 (fMo ra mm nf ti so ta go sl lo cn lx ly pm pi)), (ra 27, aI E 200 bo), (ra 30, aI E 30 pl), (ra 32, aI E 6 ru)] [(0, .ref m0), (1, .int (iI what)), (2, .int (iI v)), (3, .int (iI j))] 104 [] := by
                  intro nn
                  induction nn with
                  | zero => intro j hj hb hm; exfalso; omega
                  | succ nn ih104 =>
                    intro j hj hb hm
                    refine g_iload_n 3 dX7_rule_104 rfl rfl ?_
                    refine g_bipush dX7_rule_105 rfl ?_
                    refine g_icmp_ge (tgt := 133) (by unfold R32; omega) (by unfold R32; omega) dX7_rule_107 rfl (fun c_48 => ?_) (fun c_48 => ?_)
                    · refine g_aload_n 0 dX7_rule_133 rfl rfl ?_
                      refine g_get (C := RX7) (T := TX7) (N := 43) 0 32 (fun _ h => List.mem_cons_of_mem _ (List.mem_append_right _ h)) (List.mem_of_getElem? (i := 1) rfl) rfl rfl (by decide) rfl rfl dX7_rule_134 ?_
                      refine g_iload_n 1 dX7_rule_137 rfl rfl ?_
                      refine g_iald 3 dX7_rule_138 rfl (by decide) (by omega) (by omega) ?_
                      refine g_istore_n (lv1 := [(3, .int (iI (ru what))), (0, .ref m0), (1, .int (iI what)), (2, .int (iI v))]) dX7_rule_139 rfl (by decide) rfl ?_
                      refine g_aload_n 1 dX7_rule_140 rfl rfl ?_
                      refine g_get (C := RX7) (T := TX7) (N := 43) 0 32 (fun _ h => List.mem_cons_of_mem _ (List.mem_append_right _ h)) (List.mem_of_getElem? (i := 1) rfl) rfl rfl (by decide) rfl rfl dX7_rule_141 ?_
                      refine g_iload_n 2 dX7_rule_144 rfl rfl ?_
                      refine g_iload_n 3 dX7_rule_145 rfl rfl ?_
                      refine g_iast (ws1 := [(m0, oo 7 (fMo ra mm nf ti so ta go sl lo cn lx ly pm pi)), (ra 27, aI E 200 bo), (ra 30, aI E 30 pl), (ra 32, aI E 6 (up ru what v))]) 3 dX7_rule_146 rfl rfl (by decide) (by omega) (by omega) ?_
                      refine g_iload_n 0 dX7_rule_147 rfl rfl ?_
                      exact g_iret hRet dX7_rule_148 rfl ⟨(ru what), (up ru what v), (by right; right; exact ⟨by omega, fun e c c1 c2 => ha e c c1 (by omega), fun e c c1 c2 => hb e c c1 (by omega), rfl, rfl⟩), rfl, rfl⟩
                    · refine g_iload_n 1 dX7_rule_110 rfl rfl ?_
                      refine g_iconst dX7_rule_111 ?_
                      refine g_icmp_ne (tgt := 127) (by unfold R32; omega) (by unfold R32; omega) dX7_rule_112 rfl (fun c_49 => ?_) (fun c_49 => ?_)
                      · refine g_aload_n 0 dX7_rule_115 rfl rfl ?_
                        refine g_iload_n 3 dX7_rule_116 rfl rfl ?_
                        refine g_callV_i (n := 1) (As := [.int (iI j)]) (wr := [(ra 27, aI E 200 bo), (ra 32, aI E 6 ru)]) (C := RX7) [] (c_X7_casesOn E m0 ra mm nf ti so ta go sl lo cn lx ly pm pi pl j (by omega) (by omega) (by omega)) [0, 2] [1, 3] 0 rfl rfl gX7_rule_X7_casesOn rfl ⟨rfl, by decide +kernel⟩ ⟨by decide, by decide⟩ rfl rfl rfl rfl rfl (by decide) rfl (by decide) (by decide) (fun _ h => absurd h List.not_mem_nil) dX7_rule_117 rfl (Nat.le_of_ble_eq_true rfl) ⟨by decide, by decide⟩ (fun r u p_50 => ?_)
                        obtain ⟨rfl, rfl⟩ := p_50
                        refine g_perm (ws1 := [(m0, oo 7 (fMo ra mm nf ti so ta go sl lo cn lx ly pm pi)), (ra 27, aI E 200 bo), (ra 30, aI E 30 pl), (ra 32, aI E 6 ru)]) [2, 0, 3, 1] rfl (by decide) rfl ?_
                        have hu := hon j (by omega) (by omega)
                        have hub := ctI_b pl j (show (0:Int) ≤ 30 by omega)
                        refine g_iload_n 2 dX7_rule_120 rfl rfl ?_
                        refine g_icmp_le (tgt := 127) (by unfold R32; omega) (by unfold R32; omega) dX7_rule_121 rfl (fun c_51 => ?_) (fun c_51 => ?_)
                        · refine g_iinc (lv1 := [(3, .int (iI (j + 1))), (0, .ref m0), (1, .int (iI what)), (2, .int (iI v))]) 3 dX7_rule_127 rfl (by decide) rfl ?_
                          refine g_goto (tgt := 104) dX7_rule_130 rfl ?_
                          refine g_lv (lv1 := [(0, .ref m0), (1, .int (iI what)), (2, .int (iI v)), (3, .int (iI (j + 1)))]) [1, 2, 3, 0] rfl ?_
                          exact ih104 (j + 1) (by omega) (by intro e c c1 c2; by_cases k : c = j; (rw [k]; omega); exact hb e c c1 (by omega)) (by omega)
                        · refine g_bipush dX7_rule_124 rfl ?_
                          exact g_iret hRet dX7_rule_126 rfl ⟨(-2), ru, (by right; left; exact ⟨by omega, Or.inr ⟨by omega, j, by omega, by omega, by omega⟩, rfl, rfl⟩), rfl, rfl⟩
                      · refine g_iinc (lv1 := [(3, .int (iI (j + 1))), (0, .ref m0), (1, .int (iI what)), (2, .int (iI v))]) 3 dX7_rule_127 rfl (by decide) rfl ?_
                        refine g_goto (tgt := 104) dX7_rule_130 rfl ?_
                        refine g_lv (lv1 := [(0, .ref m0), (1, .int (iI what)), (2, .int (iI v)), (3, .int (iI (j + 1)))]) [1, 2, 3, 0] rfl ?_
                        exact ih104 (j + 1) (by omega) (by intro e c c1 c2; by_cases k : c = j; (rw [k]; omega); exact hb e c c1 (by omega)) (by omega)
                exact L104 _ 0 (by omega) (by intro _ c c1 c2; omega) (lt_nn _)
              · refine g_iload_n 1 dX7_rule_80 rfl rfl ?_
                refine g_if_ne (tgt := 96) (by unfold R32; omega) dX7_rule_81 rfl (fun c_52 => ?_) (fun c_52 => ?_)
                · refine g_aload_n 0 dX7_rule_84 rfl rfl ?_
                  refine g_iload_n 3 dX7_rule_85 rfl rfl ?_
                  refine g_callV_i (n := 1) (As := [.int (iI i)]) (wr := [(ra 30, aI E 30 pl), (ra 32, aI E 6 ru)]) (C := RX7) [] (c_X7_units E m0 ra mm nf ti so ta go sl lo cn lx ly pm pi bo i (by omega) (by omega) (by omega)) [0, 1] [2, 3] 0 rfl rfl gX7_rule_X7_units rfl ⟨rfl, by decide +kernel⟩ ⟨by decide, by decide⟩ rfl rfl rfl rfl rfl (by decide) rfl (by decide) (by decide) (fun _ h => absurd h List.not_mem_nil) dX7_rule_86 rfl (Nat.le_of_ble_eq_true rfl) ⟨by decide, by decide⟩ (fun r u p_53 => ?_)
                  obtain ⟨rfl, rfl⟩ := p_53
                  refine g_perm (ws1 := [(m0, oo 7 (fMo ra mm nf ti so ta go sl lo cn lx ly pm pi)), (ra 27, aI E 200 bo), (ra 30, aI E 30 pl), (ra 32, aI E 6 ru)]) [2, 3, 0, 1] rfl (by decide) rfl ?_
                  have hu := hun i (by omega) (by omega)
                  have hub := ctI_b bo i hcn.1
                  refine g_iload_n 2 dX7_rule_89 rfl rfl ?_
                  refine g_icmp_le (tgt := 96) (by unfold R32; omega) (by unfold R32; omega) dX7_rule_90 rfl (fun c_54 => ?_) (fun c_54 => ?_)
                  · refine g_iinc (lv1 := [(3, .int (iI (i + 1))), (0, .ref m0), (1, .int (iI what)), (2, .int (iI v))]) 3 dX7_rule_96 rfl (by decide) rfl ?_
                    refine g_goto (tgt := 74) dX7_rule_99 rfl ?_
                    refine g_lv (lv1 := [(0, .ref m0), (1, .int (iI what)), (2, .int (iI v)), (3, .int (iI (i + 1)))]) [1, 2, 3, 0] rfl ?_
                    exact ih74 (i + 1) (by omega) (by intro e c c1 c2; by_cases k : c = i; (rw [k]; omega); exact ha e c c1 (by omega)) (by omega)
                  · refine g_bipush dX7_rule_93 rfl ?_
                    exact g_iret hRet dX7_rule_95 rfl ⟨(-2), ru, (by right; left; exact ⟨by omega, Or.inl ⟨by omega, i, by omega, by omega, by omega⟩, rfl, rfl⟩), rfl, rfl⟩
                · exact absurd c_44 (by assumption)
          exact L74 _ 0 (by omega) (by intro _ c c1 c2; omega) (lt_nn _)
        · refine g_iconst dX7_rule_70 ?_
          exact g_iret hRet dX7_rule_71 rfl ⟨(-1), ru, (by left; exact ⟨by omega, rfl, rfl⟩), rfl, rfl⟩
      · refine g_iload_n 1 dX7_rule_29 rfl rfl ?_
        refine g_iconst dX7_rule_30 ?_
        refine g_icmp_ne (tgt := 39) (by unfold R32; omega) (by unfold R32; omega) dX7_rule_31 rfl (fun c_55 => ?_) (fun c_55 => ?_)
        · refine g_bipush dX7_rule_34 rfl ?_
          refine g_goto (tgt := 64) dX7_rule_36 rfl ?_
          refine g_callS_i (n := 3) (As := [.int (iI v), .int (iI 1), .int (iI 20)]) (wr := [(m0, oo 7 (fMo ra mm nf ti so ta go sl lo cn lx ly pm pi)), (ra 27, aI E 200 bo), (ra 30, aI E 30 pl), (ra 32, aI E 6 ru)]) [] (c_X7_in E v 1 20 (by omega) (by omega) (by omega)) [] [0, 1, 2, 3] gX7_rule_X7_in rfl ⟨rfl, by decide +kernel⟩ ⟨by decide, by decide⟩ rfl rfl rfl rfl rfl (by decide) rfl (by decide) (by decide) (fun _ h => absurd h List.not_mem_nil) dX7_rule_64 rfl (Nat.le_of_ble_eq_true rfl) ⟨by decide, by decide⟩ (fun r u p_56 => ?_)
          obtain ⟨rfl, rfl⟩ := p_56
          refine g_perm (ws1 := [(m0, oo 7 (fMo ra mm nf ti so ta go sl lo cn lx ly pm pi)), (ra 27, aI E 200 bo), (ra 30, aI E 30 pl), (ra 32, aI E 6 ru)]) [0, 1, 2, 3] rfl (by decide) rfl ?_
          refine g_if_ne_b (tgt := 72) dX7_rule_67 rfl (fun c_57 => ?_) (fun c_57 => ?_)
          · refine g_iconst dX7_rule_72 ?_
            refine g_istore_n (lv1 := [(3, .int (iI 0)), (0, .ref m0), (1, .int (iI what)), (2, .int (iI v))]) dX7_rule_73 rfl (by decide) rfl ?_
            refine g_lv (lv1 := [(0, .ref m0), (1, .int (iI what)), (2, .int (iI v)), (3, .int (iI 0))]) [1, 2, 3, 0] rfl ?_
            have L74 : ∀ (nn : Nat) (i : Int) (hi : 0 ≤ i ∧ i ≤ 30) (ha : what = 0 → ∀ c, 0 ≤ c → c < i → un c ≤ v) (hm : 30 - i < (nn : Int)), G X ({ frames := 1, cells := 0, slots := 0, locals := 23 } : Room) cX7_rule 4 RX7 wsX7_rule E [] 0 0 [(m0, oo 7 (fMo ra mm nf ti so ta go sl lo cn lx ly pm pi)), (ra 27, aI E 200 bo), (ra 30, aI E 30 pl), (ra 32, aI E 6 ru)] [(0, .ref m0), (1, .int (iI what)), (2, .int (iI v)), (3, .int (iI i))] 74 [] := by
              intro nn
              induction nn with
              | zero => intro i hi ha hm; exfalso; omega
              | succ nn ih74 =>
                intro i hi ha hm
                refine g_iload_n 3 dX7_rule_74 rfl rfl ?_
                refine g_bipush dX7_rule_75 rfl ?_
                refine g_icmp_ge (tgt := 102) (by unfold R32; omega) (by unfold R32; omega) dX7_rule_77 rfl (fun c_58 => ?_) (fun c_58 => ?_)
                · refine g_iconst dX7_rule_102 ?_
                  refine g_istore_n (lv1 := [(3, .int (iI 0)), (0, .ref m0), (1, .int (iI what)), (2, .int (iI v))]) dX7_rule_103 rfl (by decide) rfl ?_
                  refine g_lv (lv1 := [(0, .ref m0), (1, .int (iI what)), (2, .int (iI v)), (3, .int (iI 0))]) [1, 2, 3, 0] rfl ?_
                  have L104 : ∀ (nn : Nat) (j : Int) (hj : 0 ≤ j ∧ j ≤ 6) (hb : what = 1 → ∀ c, 0 ≤ c → c < j → on c ≤ v) (hm : 6 - j < (nn : Int)), G X ({ frames := 1, cells := 0, slots := 0, locals := 23 } : Room) cX7_rule 4 RX7 wsX7_rule E [] 0 0 [(m0, oo 7 (fMo ra mm nf ti so ta go sl lo cn lx ly pm pi)), (ra 27, aI E 200 bo), (ra 30, aI E 30 pl), (ra 32, aI E 6 ru)] [(0, .ref m0), (1, .int (iI what)), (2, .int (iI v)), (3, .int (iI j))] 104 [] := by
                    intro nn
                    induction nn with
                    | zero => intro j hj hb hm; exfalso; omega
                    | succ nn ih104 =>
                      intro j hj hb hm
                      refine g_iload_n 3 dX7_rule_104 rfl rfl ?_
                      refine g_bipush dX7_rule_105 rfl ?_
                      refine g_icmp_ge (tgt := 133) (by unfold R32; omega) (by unfold R32; omega) dX7_rule_107 rfl (fun c_59 => ?_) (fun c_59 => ?_)
                      · refine g_aload_n 0 dX7_rule_133 rfl rfl ?_
                        refine g_get (C := RX7) (T := TX7) (N := 43) 0 32 (fun _ h => List.mem_cons_of_mem _ (List.mem_append_right _ h)) (List.mem_of_getElem? (i := 1) rfl) rfl rfl (by decide) rfl rfl dX7_rule_134 ?_
                        refine g_iload_n 1 dX7_rule_137 rfl rfl ?_
                        refine g_iald 3 dX7_rule_138 rfl (by decide) (by omega) (by omega) ?_
                        refine g_istore_n (lv1 := [(3, .int (iI (ru what))), (0, .ref m0), (1, .int (iI what)), (2, .int (iI v))]) dX7_rule_139 rfl (by decide) rfl ?_
                        refine g_aload_n 1 dX7_rule_140 rfl rfl ?_
                        refine g_get (C := RX7) (T := TX7) (N := 43) 0 32 (fun _ h => List.mem_cons_of_mem _ (List.mem_append_right _ h)) (List.mem_of_getElem? (i := 1) rfl) rfl rfl (by decide) rfl rfl dX7_rule_141 ?_
                        refine g_iload_n 2 dX7_rule_144 rfl rfl ?_
                        refine g_iload_n 3 dX7_rule_145 rfl rfl ?_
                        refine g_iast (ws1 := [(m0, oo 7 (fMo ra mm nf ti so ta go sl lo cn lx ly pm pi)), (ra 27, aI E 200 bo), (ra 30, aI E 30 pl), (ra 32, aI E 6 (up ru what v))]) 3 dX7_rule_146 rfl rfl (by decide) (by omega) (by omega) ?_
                        refine g_iload_n 0 dX7_rule_147 rfl rfl ?_
                        exact g_iret hRet dX7_rule_148 rfl ⟨(ru what), (up ru what v), (by right; right; exact ⟨by omega, fun e c c1 c2 => ha e c c1 (by omega), fun e c c1 c2 => hb e c c1 (by omega), rfl, rfl⟩), rfl, rfl⟩
                      · refine g_iload_n 1 dX7_rule_110 rfl rfl ?_
                        refine g_iconst dX7_rule_111 ?_
                        refine g_icmp_ne (tgt := 127) (by unfold R32; omega) (by unfold R32; omega) dX7_rule_112 rfl (fun c_60 => ?_) (fun c_60 => ?_)
                        · refine g_aload_n 0 dX7_rule_115 rfl rfl ?_
                          refine g_iload_n 3 dX7_rule_116 rfl rfl ?_
                          refine g_callV_i (n := 1) (As := [.int (iI j)]) (wr := [(ra 27, aI E 200 bo), (ra 32, aI E 6 ru)]) (C := RX7) [] (c_X7_casesOn E m0 ra mm nf ti so ta go sl lo cn lx ly pm pi pl j (by omega) (by omega) (by omega)) [0, 2] [1, 3] 0 rfl rfl gX7_rule_X7_casesOn rfl ⟨rfl, by decide +kernel⟩ ⟨by decide, by decide⟩ rfl rfl rfl rfl rfl (by decide) rfl (by decide) (by decide) (fun _ h => absurd h List.not_mem_nil) dX7_rule_117 rfl (Nat.le_of_ble_eq_true rfl) ⟨by decide, by decide⟩ (fun r u p_61 => ?_)
                          obtain ⟨rfl, rfl⟩ := p_61
                          refine g_perm (ws1 := [(m0, oo 7 (fMo ra mm nf ti so ta go sl lo cn lx ly pm pi)), (ra 27, aI E 200 bo), (ra 30, aI E 30 pl), (ra 32, aI E 6 ru)]) [2, 0, 3, 1] rfl (by decide) rfl ?_
                          have hu := hon j (by omega) (by omega)
                          have hub := ctI_b pl j (show (0:Int) ≤ 30 by omega)
                          refine g_iload_n 2 dX7_rule_120 rfl rfl ?_
                          refine g_icmp_le (tgt := 127) (by unfold R32; omega) (by unfold R32; omega) dX7_rule_121 rfl (fun c_62 => ?_) (fun c_62 => ?_)
                          · refine g_iinc (lv1 := [(3, .int (iI (j + 1))), (0, .ref m0), (1, .int (iI what)), (2, .int (iI v))]) 3 dX7_rule_127 rfl (by decide) rfl ?_
                            refine g_goto (tgt := 104) dX7_rule_130 rfl ?_
                            refine g_lv (lv1 := [(0, .ref m0), (1, .int (iI what)), (2, .int (iI v)), (3, .int (iI (j + 1)))]) [1, 2, 3, 0] rfl ?_
                            exact ih104 (j + 1) (by omega) (by intro e c c1 c2; by_cases k : c = j; (rw [k]; omega); exact hb e c c1 (by omega)) (by omega)
                          · refine g_bipush dX7_rule_124 rfl ?_
                            exact g_iret hRet dX7_rule_126 rfl ⟨(-2), ru, (by right; left; exact ⟨by omega, Or.inr ⟨by omega, j, by omega, by omega, by omega⟩, rfl, rfl⟩), rfl, rfl⟩
                        · exact absurd c_55 (by assumption)
                  exact L104 _ 0 (by omega) (by intro _ c c1 c2; omega) (lt_nn _)
                · refine g_iload_n 1 dX7_rule_80 rfl rfl ?_
                  refine g_if_ne (tgt := 96) (by unfold R32; omega) dX7_rule_81 rfl (fun c_63 => ?_) (fun c_63 => ?_)
                  · exact absurd (by assumption) c_44
                  · refine g_iinc (lv1 := [(3, .int (iI (i + 1))), (0, .ref m0), (1, .int (iI what)), (2, .int (iI v))]) 3 dX7_rule_96 rfl (by decide) rfl ?_
                    refine g_goto (tgt := 74) dX7_rule_99 rfl ?_
                    refine g_lv (lv1 := [(0, .ref m0), (1, .int (iI what)), (2, .int (iI v)), (3, .int (iI (i + 1)))]) [1, 2, 3, 0] rfl ?_
                    exact ih74 (i + 1) (by omega) (by intro e c c1 c2; by_cases k : c = i; (rw [k]; omega); exact ha e c c1 (by omega)) (by omega)
            exact L74 _ 0 (by omega) (by intro _ c c1 c2; omega) (lt_nn _)
          · refine g_iconst dX7_rule_70 ?_
            exact g_iret hRet dX7_rule_71 rfl ⟨(-1), ru, (by left; exact ⟨by omega, rfl, rfl⟩), rfl, rfl⟩
        · refine g_iload_n 1 dX7_rule_39 rfl rfl ?_
          refine g_iconst dX7_rule_40 ?_
          refine g_icmp_ge (tgt := 50) (by unfold R32; omega) (by unfold R32; omega) dX7_rule_41 rfl (fun c_64 => ?_) (fun c_64 => ?_)
          · refine g_iload_n 1 dX7_rule_50 rfl rfl ?_
            refine g_iconst dX7_rule_51 ?_
            refine g_icmp_ne (tgt := 61) (by unfold R32; omega) (by unfold R32; omega) dX7_rule_52 rfl (fun c_65 => ?_) (fun c_65 => ?_)
            · refine g_sipush dX7_rule_55 rfl ?_
              refine g_goto (tgt := 64) dX7_rule_58 rfl ?_
              refine g_callS_i (n := 3) (As := [.int (iI v), .int (iI 1), .int (iI 1000)]) (wr := [(m0, oo 7 (fMo ra mm nf ti so ta go sl lo cn lx ly pm pi)), (ra 27, aI E 200 bo), (ra 30, aI E 30 pl), (ra 32, aI E 6 ru)]) [] (c_X7_in E v 1 1000 (by omega) (by omega) (by omega)) [] [0, 1, 2, 3] gX7_rule_X7_in rfl ⟨rfl, by decide +kernel⟩ ⟨by decide, by decide⟩ rfl rfl rfl rfl rfl (by decide) rfl (by decide) (by decide) (fun _ h => absurd h List.not_mem_nil) dX7_rule_64 rfl (Nat.le_of_ble_eq_true rfl) ⟨by decide, by decide⟩ (fun r u p_66 => ?_)
              obtain ⟨rfl, rfl⟩ := p_66
              refine g_perm (ws1 := [(m0, oo 7 (fMo ra mm nf ti so ta go sl lo cn lx ly pm pi)), (ra 27, aI E 200 bo), (ra 30, aI E 30 pl), (ra 32, aI E 6 ru)]) [0, 1, 2, 3] rfl (by decide) rfl ?_
              refine g_if_ne_b (tgt := 72) dX7_rule_67 rfl (fun c_67 => ?_) (fun c_67 => ?_)
              · refine g_iconst dX7_rule_72 ?_
                refine g_istore_n (lv1 := [(3, .int (iI 0)), (0, .ref m0), (1, .int (iI what)), (2, .int (iI v))]) dX7_rule_73 rfl (by decide) rfl ?_
                refine g_lv (lv1 := [(0, .ref m0), (1, .int (iI what)), (2, .int (iI v)), (3, .int (iI 0))]) [1, 2, 3, 0] rfl ?_
                have L74 : ∀ (nn : Nat) (i : Int) (hi : 0 ≤ i ∧ i ≤ 30) (ha : what = 0 → ∀ c, 0 ≤ c → c < i → un c ≤ v) (hm : 30 - i < (nn : Int)), G X ({ frames := 1, cells := 0, slots := 0, locals := 23 } : Room) cX7_rule 4 RX7 wsX7_rule E [] 0 0 [(m0, oo 7 (fMo ra mm nf ti so ta go sl lo cn lx ly pm pi)), (ra 27, aI E 200 bo), (ra 30, aI E 30 pl), (ra 32, aI E 6 ru)] [(0, .ref m0), (1, .int (iI what)), (2, .int (iI v)), (3, .int (iI i))] 74 [] := by
                  intro nn
                  induction nn with
                  | zero => intro i hi ha hm; exfalso; omega
                  | succ nn ih74 =>
                    intro i hi ha hm
                    refine g_iload_n 3 dX7_rule_74 rfl rfl ?_
                    refine g_bipush dX7_rule_75 rfl ?_
                    refine g_icmp_ge (tgt := 102) (by unfold R32; omega) (by unfold R32; omega) dX7_rule_77 rfl (fun c_68 => ?_) (fun c_68 => ?_)
                    · refine g_iconst dX7_rule_102 ?_
                      refine g_istore_n (lv1 := [(3, .int (iI 0)), (0, .ref m0), (1, .int (iI what)), (2, .int (iI v))]) dX7_rule_103 rfl (by decide) rfl ?_
                      refine g_lv (lv1 := [(0, .ref m0), (1, .int (iI what)), (2, .int (iI v)), (3, .int (iI 0))]) [1, 2, 3, 0] rfl ?_
                      have L104 : ∀ (nn : Nat) (j : Int) (hj : 0 ≤ j ∧ j ≤ 6) (hb : what = 1 → ∀ c, 0 ≤ c → c < j → on c ≤ v) (hm : 6 - j < (nn : Int)), G X ({ frames := 1, cells := 0, slots := 0, locals := 23 } : Room) cX7_rule 4 RX7 wsX7_rule E [] 0 0 [(m0, oo 7 (fMo ra mm nf ti so ta go sl lo cn lx ly pm pi)), (ra 27, aI E 200 bo), (ra 30, aI E 30 pl), (ra 32, aI E 6 ru)] [(0, .ref m0), (1, .int (iI what)), (2, .int (iI v)), (3, .int (iI j))] 104 [] := by
                        intro nn
                        induction nn with
                        | zero => intro j hj hb hm; exfalso; omega
                        | succ nn ih104 =>
                          intro j hj hb hm
                          refine g_iload_n 3 dX7_rule_104 rfl rfl ?_
                          refine g_bipush dX7_rule_105 rfl ?_
                          refine g_icmp_ge (tgt := 133) (by unfold R32; omega) (by unfold R32; omega) dX7_rule_107 rfl (fun c_69 => ?_) (fun c_69 => ?_)
                          · refine g_aload_n 0 dX7_rule_133 rfl rfl ?_
                            refine g_get (C := RX7) (T := TX7) (N := 43) 0 32 (fun _ h => List.mem_cons_of_mem _ (List.mem_append_right _ h)) (List.mem_of_getElem? (i := 1) rfl) rfl rfl (by decide) rfl rfl dX7_rule_134 ?_
                            refine g_iload_n 1 dX7_rule_137 rfl rfl ?_
                            refine g_iald 3 dX7_rule_138 rfl (by decide) (by omega) (by omega) ?_
                            refine g_istore_n (lv1 := [(3, .int (iI (ru what))), (0, .ref m0), (1, .int (iI what)), (2, .int (iI v))]) dX7_rule_139 rfl (by decide) rfl ?_
                            refine g_aload_n 1 dX7_rule_140 rfl rfl ?_
                            refine g_get (C := RX7) (T := TX7) (N := 43) 0 32 (fun _ h => List.mem_cons_of_mem _ (List.mem_append_right _ h)) (List.mem_of_getElem? (i := 1) rfl) rfl rfl (by decide) rfl rfl dX7_rule_141 ?_
                            refine g_iload_n 2 dX7_rule_144 rfl rfl ?_
                            refine g_iload_n 3 dX7_rule_145 rfl rfl ?_
                            refine g_iast (ws1 := [(m0, oo 7 (fMo ra mm nf ti so ta go sl lo cn lx ly pm pi)), (ra 27, aI E 200 bo), (ra 30, aI E 30 pl), (ra 32, aI E 6 (up ru what v))]) 3 dX7_rule_146 rfl rfl (by decide) (by omega) (by omega) ?_
                            refine g_iload_n 0 dX7_rule_147 rfl rfl ?_
                            exact g_iret hRet dX7_rule_148 rfl ⟨(ru what), (up ru what v), (by right; right; exact ⟨by omega, fun e c c1 c2 => ha e c c1 (by omega), fun e c c1 c2 => hb e c c1 (by omega), rfl, rfl⟩), rfl, rfl⟩
                          · refine g_iload_n 1 dX7_rule_110 rfl rfl ?_
                            refine g_iconst dX7_rule_111 ?_
                            refine g_icmp_ne (tgt := 127) (by unfold R32; omega) (by unfold R32; omega) dX7_rule_112 rfl (fun c_70 => ?_) (fun c_70 => ?_)
                            · exact absurd (by assumption) c_55
                            · refine g_iinc (lv1 := [(3, .int (iI (j + 1))), (0, .ref m0), (1, .int (iI what)), (2, .int (iI v))]) 3 dX7_rule_127 rfl (by decide) rfl ?_
                              refine g_goto (tgt := 104) dX7_rule_130 rfl ?_
                              refine g_lv (lv1 := [(0, .ref m0), (1, .int (iI what)), (2, .int (iI v)), (3, .int (iI (j + 1)))]) [1, 2, 3, 0] rfl ?_
                              exact ih104 (j + 1) (by omega) (by intro e c c1 c2; by_cases k : c = j; (rw [k]; omega); exact hb e c c1 (by omega)) (by omega)
                      exact L104 _ 0 (by omega) (by intro _ c c1 c2; omega) (lt_nn _)
                    · refine g_iload_n 1 dX7_rule_80 rfl rfl ?_
                      refine g_if_ne (tgt := 96) (by unfold R32; omega) dX7_rule_81 rfl (fun c_71 => ?_) (fun c_71 => ?_)
                      · exact absurd (by assumption) c_44
                      · refine g_iinc (lv1 := [(3, .int (iI (i + 1))), (0, .ref m0), (1, .int (iI what)), (2, .int (iI v))]) 3 dX7_rule_96 rfl (by decide) rfl ?_
                        refine g_goto (tgt := 74) dX7_rule_99 rfl ?_
                        refine g_lv (lv1 := [(0, .ref m0), (1, .int (iI what)), (2, .int (iI v)), (3, .int (iI (i + 1)))]) [1, 2, 3, 0] rfl ?_
                        exact ih74 (i + 1) (by omega) (by intro e c c1 c2; by_cases k : c = i; (rw [k]; omega); exact ha e c c1 (by omega)) (by omega)
                exact L74 _ 0 (by omega) (by intro _ c c1 c2; omega) (lt_nn _)
              · refine g_iconst dX7_rule_70 ?_
                exact g_iret hRet dX7_rule_71 rfl ⟨(-1), ru, (by left; exact ⟨by omega, rfl, rfl⟩), rfl, rfl⟩
            · refine g_sipush dX7_rule_61 rfl ?_
              refine g_callS_i (n := 3) (As := [.int (iI v), .int (iI 1), .int (iI 500)]) (wr := [(m0, oo 7 (fMo ra mm nf ti so ta go sl lo cn lx ly pm pi)), (ra 27, aI E 200 bo), (ra 30, aI E 30 pl), (ra 32, aI E 6 ru)]) [] (c_X7_in E v 1 500 (by omega) (by omega) (by omega)) [] [0, 1, 2, 3] gX7_rule_X7_in rfl ⟨rfl, by decide +kernel⟩ ⟨by decide, by decide⟩ rfl rfl rfl rfl rfl (by decide) rfl (by decide) (by decide) (fun _ h => absurd h List.not_mem_nil) dX7_rule_64 rfl (Nat.le_of_ble_eq_true rfl) ⟨by decide, by decide⟩ (fun r u p_72 => ?_)
              obtain ⟨rfl, rfl⟩ := p_72
              refine g_perm (ws1 := [(m0, oo 7 (fMo ra mm nf ti so ta go sl lo cn lx ly pm pi)), (ra 27, aI E 200 bo), (ra 30, aI E 30 pl), (ra 32, aI E 6 ru)]) [0, 1, 2, 3] rfl (by decide) rfl ?_
              refine g_if_ne_b (tgt := 72) dX7_rule_67 rfl (fun c_73 => ?_) (fun c_73 => ?_)
              · refine g_iconst dX7_rule_72 ?_
                refine g_istore_n (lv1 := [(3, .int (iI 0)), (0, .ref m0), (1, .int (iI what)), (2, .int (iI v))]) dX7_rule_73 rfl (by decide) rfl ?_
                refine g_lv (lv1 := [(0, .ref m0), (1, .int (iI what)), (2, .int (iI v)), (3, .int (iI 0))]) [1, 2, 3, 0] rfl ?_
                have L74 : ∀ (nn : Nat) (i : Int) (hi : 0 ≤ i ∧ i ≤ 30) (ha : what = 0 → ∀ c, 0 ≤ c → c < i → un c ≤ v) (hm : 30 - i < (nn : Int)), G X ({ frames := 1, cells := 0, slots := 0, locals := 23 } : Room) cX7_rule 4 RX7 wsX7_rule E [] 0 0 [(m0, oo 7 (fMo ra mm nf ti so ta go sl lo cn lx ly pm pi)), (ra 27, aI E 200 bo), (ra 30, aI E 30 pl), (ra 32, aI E 6 ru)] [(0, .ref m0), (1, .int (iI what)), (2, .int (iI v)), (3, .int (iI i))] 74 [] := by
                  intro nn
                  induction nn with
                  | zero => intro i hi ha hm; exfalso; omega
                  | succ nn ih74 =>
                    intro i hi ha hm
                    refine g_iload_n 3 dX7_rule_74 rfl rfl ?_
                    refine g_bipush dX7_rule_75 rfl ?_
                    refine g_icmp_ge (tgt := 102) (by unfold R32; omega) (by unfold R32; omega) dX7_rule_77 rfl (fun c_74 => ?_) (fun c_74 => ?_)
                    · refine g_iconst dX7_rule_102 ?_
                      refine g_istore_n (lv1 := [(3, .int (iI 0)), (0, .ref m0), (1, .int (iI what)), (2, .int (iI v))]) dX7_rule_103 rfl (by decide) rfl ?_
                      refine g_lv (lv1 := [(0, .ref m0), (1, .int (iI what)), (2, .int (iI v)), (3, .int (iI 0))]) [1, 2, 3, 0] rfl ?_
                      have L104 : ∀ (nn : Nat) (j : Int) (hj : 0 ≤ j ∧ j ≤ 6) (hb : what = 1 → ∀ c, 0 ≤ c → c < j → on c ≤ v) (hm : 6 - j < (nn : Int)), G X ({ frames := 1, cells := 0, slots := 0, locals := 23 } : Room) cX7_rule 4 RX7 wsX7_rule E [] 0 0 [(m0, oo 7 (fMo ra mm nf ti so ta go sl lo cn lx ly pm pi)), (ra 27, aI E 200 bo), (ra 30, aI E 30 pl), (ra 32, aI E 6 ru)] [(0, .ref m0), (1, .int (iI what)), (2, .int (iI v)), (3, .int (iI j))] 104 [] := by
                        intro nn
                        induction nn with
                        | zero => intro j hj hb hm; exfalso; omega
                        | succ nn ih104 =>
                          intro j hj hb hm
                          refine g_iload_n 3 dX7_rule_104 rfl rfl ?_
                          refine g_bipush dX7_rule_105 rfl ?_
                          refine g_icmp_ge (tgt := 133) (by unfold R32; omega) (by unfold R32; omega) dX7_rule_107 rfl (fun c_75 => ?_) (fun c_75 => ?_)
                          · refine g_aload_n 0 dX7_rule_133 rfl rfl ?_
                            refine g_get (C := RX7) (T := TX7) (N := 43) 0 32 (fun _ h => List.mem_cons_of_mem _ (List.mem_append_right _ h)) (List.mem_of_getElem? (i := 1) rfl) rfl rfl (by decide) rfl rfl dX7_rule_134 ?_
                            refine g_iload_n 1 dX7_rule_137 rfl rfl ?_
                            refine g_iald 3 dX7_rule_138 rfl (by decide) (by omega) (by omega) ?_
                            refine g_istore_n (lv1 := [(3, .int (iI (ru what))), (0, .ref m0), (1, .int (iI what)), (2, .int (iI v))]) dX7_rule_139 rfl (by decide) rfl ?_
                            refine g_aload_n 1 dX7_rule_140 rfl rfl ?_
                            refine g_get (C := RX7) (T := TX7) (N := 43) 0 32 (fun _ h => List.mem_cons_of_mem _ (List.mem_append_right _ h)) (List.mem_of_getElem? (i := 1) rfl) rfl rfl (by decide) rfl rfl dX7_rule_141 ?_
                            refine g_iload_n 2 dX7_rule_144 rfl rfl ?_
                            refine g_iload_n 3 dX7_rule_145 rfl rfl ?_
                            refine g_iast (ws1 := [(m0, oo 7 (fMo ra mm nf ti so ta go sl lo cn lx ly pm pi)), (ra 27, aI E 200 bo), (ra 30, aI E 30 pl), (ra 32, aI E 6 (up ru what v))]) 3 dX7_rule_146 rfl rfl (by decide) (by omega) (by omega) ?_
                            refine g_iload_n 0 dX7_rule_147 rfl rfl ?_
                            exact g_iret hRet dX7_rule_148 rfl ⟨(ru what), (up ru what v), (by right; right; exact ⟨by omega, fun e c c1 c2 => ha e c c1 (by omega), fun e c c1 c2 => hb e c c1 (by omega), rfl, rfl⟩), rfl, rfl⟩
                          · refine g_iload_n 1 dX7_rule_110 rfl rfl ?_
                            refine g_iconst dX7_rule_111 ?_
                            refine g_icmp_ne (tgt := 127) (by unfold R32; omega) (by unfold R32; omega) dX7_rule_112 rfl (fun c_76 => ?_) (fun c_76 => ?_)
                            · exact absurd (by assumption) c_55
                            · refine g_iinc (lv1 := [(3, .int (iI (j + 1))), (0, .ref m0), (1, .int (iI what)), (2, .int (iI v))]) 3 dX7_rule_127 rfl (by decide) rfl ?_
                              refine g_goto (tgt := 104) dX7_rule_130 rfl ?_
                              refine g_lv (lv1 := [(0, .ref m0), (1, .int (iI what)), (2, .int (iI v)), (3, .int (iI (j + 1)))]) [1, 2, 3, 0] rfl ?_
                              exact ih104 (j + 1) (by omega) (by intro e c c1 c2; by_cases k : c = j; (rw [k]; omega); exact hb e c c1 (by omega)) (by omega)
                      exact L104 _ 0 (by omega) (by intro _ c c1 c2; omega) (lt_nn _)
                    · refine g_iload_n 1 dX7_rule_80 rfl rfl ?_
                      refine g_if_ne (tgt := 96) (by unfold R32; omega) dX7_rule_81 rfl (fun c_77 => ?_) (fun c_77 => ?_)
                      · exact absurd (by assumption) c_44
                      · refine g_iinc (lv1 := [(3, .int (iI (i + 1))), (0, .ref m0), (1, .int (iI what)), (2, .int (iI v))]) 3 dX7_rule_96 rfl (by decide) rfl ?_
                        refine g_goto (tgt := 74) dX7_rule_99 rfl ?_
                        refine g_lv (lv1 := [(0, .ref m0), (1, .int (iI what)), (2, .int (iI v)), (3, .int (iI (i + 1)))]) [1, 2, 3, 0] rfl ?_
                        exact ih74 (i + 1) (by omega) (by intro e c c1 c2; by_cases k : c = i; (rw [k]; omega); exact ha e c c1 (by omega)) (by omega)
                exact L74 _ 0 (by omega) (by intro _ c c1 c2; omega) (lt_nn _)
              · refine g_iconst dX7_rule_70 ?_
                exact g_iret hRet dX7_rule_71 rfl ⟨(-1), ru, (by left; exact ⟨by omega, rfl, rfl⟩), rfl, rfl⟩
          · refine g_sipush dX7_rule_44 rfl ?_
            refine g_goto (tgt := 64) dX7_rule_47 rfl ?_
            refine g_callS_i (n := 3) (As := [.int (iI v), .int (iI 1), .int (iI 10000)]) (wr := [(m0, oo 7 (fMo ra mm nf ti so ta go sl lo cn lx ly pm pi)), (ra 27, aI E 200 bo), (ra 30, aI E 30 pl), (ra 32, aI E 6 ru)]) [] (c_X7_in E v 1 10000 (by omega) (by omega) (by omega)) [] [0, 1, 2, 3] gX7_rule_X7_in rfl ⟨rfl, by decide +kernel⟩ ⟨by decide, by decide⟩ rfl rfl rfl rfl rfl (by decide) rfl (by decide) (by decide) (fun _ h => absurd h List.not_mem_nil) dX7_rule_64 rfl (Nat.le_of_ble_eq_true rfl) ⟨by decide, by decide⟩ (fun r u p_78 => ?_)
            obtain ⟨rfl, rfl⟩ := p_78
            refine g_perm (ws1 := [(m0, oo 7 (fMo ra mm nf ti so ta go sl lo cn lx ly pm pi)), (ra 27, aI E 200 bo), (ra 30, aI E 30 pl), (ra 32, aI E 6 ru)]) [0, 1, 2, 3] rfl (by decide) rfl ?_
            refine g_if_ne_b (tgt := 72) dX7_rule_67 rfl (fun c_79 => ?_) (fun c_79 => ?_)
            · refine g_iconst dX7_rule_72 ?_
              refine g_istore_n (lv1 := [(3, .int (iI 0)), (0, .ref m0), (1, .int (iI what)), (2, .int (iI v))]) dX7_rule_73 rfl (by decide) rfl ?_
              refine g_lv (lv1 := [(0, .ref m0), (1, .int (iI what)), (2, .int (iI v)), (3, .int (iI 0))]) [1, 2, 3, 0] rfl ?_
              have L74 : ∀ (nn : Nat) (i : Int) (hi : 0 ≤ i ∧ i ≤ 30) (ha : what = 0 → ∀ c, 0 ≤ c → c < i → un c ≤ v) (hm : 30 - i < (nn : Int)), G X ({ frames := 1, cells := 0, slots := 0, locals := 23 } : Room) cX7_rule 4 RX7 wsX7_rule E [] 0 0 [(m0, oo 7 (fMo ra mm nf ti so ta go sl lo cn lx ly pm pi)), (ra 27, aI E 200 bo), (ra 30, aI E 30 pl), (ra 32, aI E 6 ru)] [(0, .ref m0), (1, .int (iI what)), (2, .int (iI v)), (3, .int (iI i))] 74 [] := by
                intro nn
                induction nn with
                | zero => intro i hi ha hm; exfalso; omega
                | succ nn ih74 =>
                  intro i hi ha hm
                  refine g_iload_n 3 dX7_rule_74 rfl rfl ?_
                  refine g_bipush dX7_rule_75 rfl ?_
                  refine g_icmp_ge (tgt := 102) (by unfold R32; omega) (by unfold R32; omega) dX7_rule_77 rfl (fun c_80 => ?_) (fun c_80 => ?_)
                  · refine g_iconst dX7_rule_102 ?_
                    refine g_istore_n (lv1 := [(3, .int (iI 0)), (0, .ref m0), (1, .int (iI what)), (2, .int (iI v))]) dX7_rule_103 rfl (by decide) rfl ?_
                    refine g_lv (lv1 := [(0, .ref m0), (1, .int (iI what)), (2, .int (iI v)), (3, .int (iI 0))]) [1, 2, 3, 0] rfl ?_
                    have L104 : ∀ (nn : Nat) (j : Int) (hj : 0 ≤ j ∧ j ≤ 6) (hb : what = 1 → ∀ c, 0 ≤ c → c < j → on c ≤ v) (hm : 6 - j < (nn : Int)), G X ({ frames := 1, cells := 0, slots := 0, locals := 23 } : Room) cX7_rule 4 RX7 wsX7_rule E [] 0 0 [(m0, oo 7 (fMo ra mm nf ti so ta go sl lo cn lx ly pm pi)), (ra 27, aI E 200 bo), (ra 30, aI E 30 pl), (ra 32, aI E 6 ru)] [(0, .ref m0), (1, .int (iI what)), (2, .int (iI v)), (3, .int (iI j))] 104 [] := by
                      intro nn
                      induction nn with
                      | zero => intro j hj hb hm; exfalso; omega
                      | succ nn ih104 =>
                        intro j hj hb hm
                        refine g_iload_n 3 dX7_rule_104 rfl rfl ?_
                        refine g_bipush dX7_rule_105 rfl ?_
                        refine g_icmp_ge (tgt := 133) (by unfold R32; omega) (by unfold R32; omega) dX7_rule_107 rfl (fun c_81 => ?_) (fun c_81 => ?_)
                        · refine g_aload_n 0 dX7_rule_133 rfl rfl ?_
                          refine g_get (C := RX7) (T := TX7) (N := 43) 0 32 (fun _ h => List.mem_cons_of_mem _ (List.mem_append_right _ h)) (List.mem_of_getElem? (i := 1) rfl) rfl rfl (by decide) rfl rfl dX7_rule_134 ?_
                          refine g_iload_n 1 dX7_rule_137 rfl rfl ?_
                          refine g_iald 3 dX7_rule_138 rfl (by decide) (by omega) (by omega) ?_
                          refine g_istore_n (lv1 := [(3, .int (iI (ru what))), (0, .ref m0), (1, .int (iI what)), (2, .int (iI v))]) dX7_rule_139 rfl (by decide) rfl ?_
                          refine g_aload_n 1 dX7_rule_140 rfl rfl ?_
                          refine g_get (C := RX7) (T := TX7) (N := 43) 0 32 (fun _ h => List.mem_cons_of_mem _ (List.mem_append_right _ h)) (List.mem_of_getElem? (i := 1) rfl) rfl rfl (by decide) rfl rfl dX7_rule_141 ?_
                          refine g_iload_n 2 dX7_rule_144 rfl rfl ?_
                          refine g_iload_n 3 dX7_rule_145 rfl rfl ?_
                          refine g_iast (ws1 := [(m0, oo 7 (fMo ra mm nf ti so ta go sl lo cn lx ly pm pi)), (ra 27, aI E 200 bo), (ra 30, aI E 30 pl), (ra 32, aI E 6 (up ru what v))]) 3 dX7_rule_146 rfl rfl (by decide) (by omega) (by omega) ?_
                          refine g_iload_n 0 dX7_rule_147 rfl rfl ?_
                          exact g_iret hRet dX7_rule_148 rfl ⟨(ru what), (up ru what v), (by right; right; exact ⟨by omega, fun e c c1 c2 => ha e c c1 (by omega), fun e c c1 c2 => hb e c c1 (by omega), rfl, rfl⟩), rfl, rfl⟩
                        · refine g_iload_n 1 dX7_rule_110 rfl rfl ?_
                          refine g_iconst dX7_rule_111 ?_
                          refine g_icmp_ne (tgt := 127) (by unfold R32; omega) (by unfold R32; omega) dX7_rule_112 rfl (fun c_82 => ?_) (fun c_82 => ?_)
                          · exact absurd (by assumption) c_55
                          · refine g_iinc (lv1 := [(3, .int (iI (j + 1))), (0, .ref m0), (1, .int (iI what)), (2, .int (iI v))]) 3 dX7_rule_127 rfl (by decide) rfl ?_
                            refine g_goto (tgt := 104) dX7_rule_130 rfl ?_
                            refine g_lv (lv1 := [(0, .ref m0), (1, .int (iI what)), (2, .int (iI v)), (3, .int (iI (j + 1)))]) [1, 2, 3, 0] rfl ?_
                            exact ih104 (j + 1) (by omega) (by intro e c c1 c2; by_cases k : c = j; (rw [k]; omega); exact hb e c c1 (by omega)) (by omega)
                    exact L104 _ 0 (by omega) (by intro _ c c1 c2; omega) (lt_nn _)
                  · refine g_iload_n 1 dX7_rule_80 rfl rfl ?_
                    refine g_if_ne (tgt := 96) (by unfold R32; omega) dX7_rule_81 rfl (fun c_83 => ?_) (fun c_83 => ?_)
                    · exact absurd (by assumption) c_44
                    · refine g_iinc (lv1 := [(3, .int (iI (i + 1))), (0, .ref m0), (1, .int (iI what)), (2, .int (iI v))]) 3 dX7_rule_96 rfl (by decide) rfl ?_
                      refine g_goto (tgt := 74) dX7_rule_99 rfl ?_
                      refine g_lv (lv1 := [(0, .ref m0), (1, .int (iI what)), (2, .int (iI v)), (3, .int (iI (i + 1)))]) [1, 2, 3, 0] rfl ?_
                      exact ih74 (i + 1) (by omega) (by intro e c c1 c2; by_cases k : c = i; (rw [k]; omega); exact ha e c c1 (by omega)) (by omega)
              exact L74 _ 0 (by omega) (by intro _ c c1 c2; omega) (lt_nn _)
            · refine g_iconst dX7_rule_70 ?_
              exact g_iret hRet dX7_rule_71 rfl ⟨(-1), ru, (by left; exact ⟨by omega, rfl, rfl⟩), rfl, rfl⟩
  · refine g_iconst dX7_rule_70 ?_
    exact g_iret hRet dX7_rule_71 rfl ⟨(-1), ru, (by left; exact ⟨by omega, rfl, rfl⟩), rfl, rfl⟩

theorem pOf_d (bo pl : Int → Int) (k : Int) : ((0 ≤ bo k ∧ bo k ≤ 29) → pOf bo pl k = pl (bo k)) ∧ (¬ (0 ≤ bo k ∧ bo k ≤ 29) → pOf bo pl k = -4) := by
  unfold pOf
  exact ⟨fun h => if_pos h, fun h => if_neg h⟩

set_option maxHeartbeats 4000000 in
set_option maxRecDepth 100000 in
theorem c_X7_recall (E : Ev) (m0 : Nat) (ra : Nat → Nat) (mm : Int) (nf : Int) (ti : Int) (so : Int) (ta : Int) (go : Int) (sl : Int) (lo : Int) (cn : Int) (lx : Int) (ly : Int) (pm : Int) (pi : Int) (bo : Int → Int) (pl : Int → Int) (lt : Int → Int) (lot : Int) (what : Int) (hcn : 0 ≤ cn ∧ cn ≤ 200) (hbo : ∀ k, (bo k = -4 ∨ 0 ≤ bo k) ∧ bo k ≤ 29) (hpl : ∀ k, (pl k = -4 ∨ 0 ≤ pl k) ∧ pl k ≤ 5) (hlt : ∀ k, 0 ≤ lt k ∧ lt k ≤ 15) (h_lot : -2147483648 ≤ lot ∧ lot ≤ 2147483647) (h_what : -2147483648 ≤ what ∧ what ≤ 2147483647) : MI yX7_recall wsX7_recall ({ frames := 1, cells := 0, slots := 0, locals := 22 } : Room) E [] 0 0 [.ref m0, .int (iI lot), .int (iI what)] [(m0, oo 7 (fMo ra mm nf ti so ta go sl lo cn lx ly pm pi)), (ra 27, aI E 200 bo), (ra 30, aI E 30 pl), (ra 26, aI E 200 lt)] (fun r u => r = f_recall cn lt bo pl lot what ∧ u = [(m0, oo 7 (fMo ra mm nf ti so ta go sl lo cn lx ly pm pi)), (ra 27, aI E 200 bo), (ra 30, aI E 30 pl), (ra 26, aI E 200 lt)]) := by
  refine MI.of (cc := cX7_recall) (maxL := 8) (own := RX7) (by decide) rfl rfl rfl (Nat.le_of_ble_eq_true rfl) [(0, .ref m0), (1, .int (iI lot)), (2, .int (iI what))] rfl ?_
  intro X hin2 hRet
  refine g_iload_n 1 dX7_recall_0 rfl rfl ?_
  refine g_iconst dX7_recall_1 ?_
  refine g_bipush dX7_recall_2 rfl ?_
  refine g_callS_i (n := 3) (As := [.int (iI lot), .int (iI 0), .int (iI 15)]) (wr := [(m0, oo 7 (fMo ra mm nf ti so ta go sl lo cn lx ly pm pi)), (ra 27, aI E 200 bo), (ra 30, aI E 30 pl), (ra 26, aI E 200 lt)]) [] (c_X7_in E lot 0 15 (by omega) (by omega) (by omega)) [] [0, 1, 2, 3] gX7_recall_X7_in rfl ⟨rfl, by decide +kernel⟩ ⟨by decide, by decide⟩ rfl rfl rfl rfl rfl (by decide) rfl (by decide) (by decide) (fun _ h => absurd h List.not_mem_nil) dX7_recall_4 rfl (Nat.le_of_ble_eq_true rfl) ⟨by decide, by decide⟩ (fun r u p_1 => ?_)
  obtain ⟨rfl, rfl⟩ := p_1
  refine g_perm (ws1 := [(m0, oo 7 (fMo ra mm nf ti so ta go sl lo cn lx ly pm pi)), (ra 27, aI E 200 bo), (ra 30, aI E 30 pl), (ra 26, aI E 200 lt)]) [0, 1, 2, 3] rfl (by decide) rfl ?_
  refine g_if_eq_b (tgt := 19) dX7_recall_7 rfl (fun c_2 => ?_) (fun c_2 => ?_)
  · refine g_iload_n 2 dX7_recall_10 rfl rfl ?_
    refine g_iconst dX7_recall_11 ?_
    refine g_iconst dX7_recall_12 ?_
    refine g_callS_i (n := 3) (As := [.int (iI what), .int (iI 0), .int (iI 2)]) (wr := [(m0, oo 7 (fMo ra mm nf ti so ta go sl lo cn lx ly pm pi)), (ra 27, aI E 200 bo), (ra 30, aI E 30 pl), (ra 26, aI E 200 lt)]) [] (c_X7_in E what 0 2 (by omega) (by omega) (by omega)) [] [0, 1, 2, 3] gX7_recall_X7_in rfl ⟨rfl, by decide +kernel⟩ ⟨by decide, by decide⟩ rfl rfl rfl rfl rfl (by decide) rfl (by decide) (by decide) (fun _ h => absurd h List.not_mem_nil) dX7_recall_13 rfl (Nat.le_of_ble_eq_true rfl) ⟨by decide, by decide⟩ (fun r u p_3 => ?_)
    obtain ⟨rfl, rfl⟩ := p_3
    refine g_perm (ws1 := [(m0, oo 7 (fMo ra mm nf ti so ta go sl lo cn lx ly pm pi)), (ra 27, aI E 200 bo), (ra 30, aI E 30 pl), (ra 26, aI E 200 lt)]) [0, 1, 2, 3] rfl (by decide) rfl ?_
    refine g_if_ne_b (tgt := 21) dX7_recall_16 rfl (fun c_4 => ?_) (fun c_4 => ?_)
    · refine g_iconst dX7_recall_21 ?_
      refine g_istore_n (lv1 := [(3, .int (iI 0)), (0, .ref m0), (1, .int (iI lot)), (2, .int (iI what))]) dX7_recall_22 rfl (by decide) rfl ?_
      refine g_iconst dX7_recall_23 ?_
      refine g_istore (lv1 := [(4, .int (iI 0)), (3, .int (iI 0)), (0, .ref m0), (1, .int (iI lot)), (2, .int (iI what))]) dX7_recall_24 (by decide) rfl ?_
      refine g_iconst dX7_recall_26 ?_
      refine g_istore (lv1 := [(5, .int (iI 0)), (4, .int (iI 0)), (3, .int (iI 0)), (0, .ref m0), (1, .int (iI lot)), (2, .int (iI what))]) dX7_recall_27 (by decide) rfl ?_
      refine g_iconst dX7_recall_29 ?_
      refine g_istore (lv1 := [(6, .int (iI 0)), (5, .int (iI 0)), (4, .int (iI 0)), (3, .int (iI 0)), (0, .ref m0), (1, .int (iI lot)), (2, .int (iI what))]) dX7_recall_30 (by decide) rfl ?_
      refine g_lv (lv1 := [(0, .ref m0), (1, .int (iI lot)), (2, .int (iI what)), (3, .int (iI 0)), (4, .int (iI 0)), (5, .int (iI 0)), (6, .int (iI 0))]) [4, 5, 6, 3, 2, 1, 0] rfl ?_
      have L32 : ∀ (nn : Nat) (i : Int) (w1 : Int32) (w2 : Int32) (w3 : Int) (hi : 0 ≤ i ∧ i ≤ cn) (hw1 : w1 = oI (fun k => lt k = lot ∧ 0 ≤ bo k ∧ bo k ≤ 29) (fun k => iI 1 <<< (iI (bo k) &&& 31)) i) (hw2 : w2 = oI (fun k => lt k = lot ∧ 0 ≤ pOf bo pl k ∧ pOf bo pl k ≤ 5) (fun k => iI 1 <<< (iI (pOf bo pl k) &&& 31)) i) (hw3 : w3 = sI (fun k => if lt k = lot ∧ bo k = -4 then 1 else 0) i) (hm : cn - i < (nn : Int)), G X ({ frames := 1, cells := 0, slots := 0, locals := 22 } : Room) cX7_recall 8 RX7 wsX7_recall E [] 0 0 [(m0, oo 7 (fMo ra mm nf ti so ta go sl lo cn lx ly pm pi)), (ra 27, aI E 200 bo), (ra 30, aI E 30 pl), (ra 26, aI E 200 lt)] [(0, .ref m0), (1, .int (iI lot)), (2, .int (iI what)), (3, .int w1), (4, .int w2), (5, .int (iI w3)), (6, .int (iI i))] 32 [] := by
        intro nn
        induction nn with
        | zero => intro i w1 w2 w3 hi hw1 hw2 hw3 hm; exfalso; omega
        | succ nn ih32 =>
          intro i w1 w2 w3 hi hw1 hw2 hw3 hm
          refine g_iload 6 dX7_recall_32 rfl ?_
          refine g_aload_n 0 dX7_recall_34 rfl rfl ?_
          refine g_get (C := RX7) (T := TX7) (N := 43) 0 25 (fun _ h => List.mem_cons_of_mem _ (List.mem_append_right _ h)) (List.mem_of_getElem? (i := 1) rfl) rfl rfl (by decide) rfl rfl dX7_recall_35 ?_
          refine g_icmp_ge (tgt := 131) (by unfold R32; omega) (by unfold R32; omega) dX7_recall_38 rfl (fun c_5 => ?_) (fun c_5 => ?_)
          · refine g_iload_n 2 dX7_recall_131 rfl rfl ?_
            refine g_if_ne (tgt := 139) (by unfold R32; omega) dX7_recall_132 rfl (fun c_6 => ?_) (fun c_6 => ?_)
            · refine g_iload_n 3 dX7_recall_135 rfl rfl ?_
              refine g_goto (tgt := 151) dX7_recall_136 rfl ?_
              exact g_iret hRet dX7_recall_151 rfl ⟨(by have ei : i = cn := (by omega); subst ei; unfold f_recall; rw [if_neg (by omega), if_pos (by omega)]; exact hw1), rfl⟩
            · refine g_iload_n 2 dX7_recall_139 rfl rfl ?_
              refine g_iconst dX7_recall_140 ?_
              refine g_icmp_ne (tgt := 149) (by unfold R32; omega) (by unfold R32; omega) dX7_recall_141 rfl (fun c_7 => ?_) (fun c_7 => ?_)
              · refine g_iload 4 dX7_recall_144 rfl ?_
                refine g_goto (tgt := 151) dX7_recall_146 rfl ?_
                exact g_iret hRet dX7_recall_151 rfl ⟨(by have ei : i = cn := (by omega); subst ei; unfold f_recall; rw [if_neg (by omega), if_neg (by omega), if_pos (by omega)]; exact hw2), rfl⟩
              · refine g_iload 5 dX7_recall_149 rfl ?_
                exact g_iret hRet dX7_recall_151 rfl ⟨(by have ei : i = cn := (by omega); subst ei; unfold f_recall; rw [if_neg (by omega), if_neg (by omega), if_neg (by omega), hw3]), rfl⟩
          · refine g_aload_n 0 dX7_recall_41 rfl rfl ?_
            refine g_get (C := RX7) (T := TX7) (N := 43) 0 26 (fun _ h => List.mem_cons_of_mem _ (List.mem_append_right _ h)) (List.mem_of_getElem? (i := 2) rfl) rfl rfl (by decide) rfl rfl dX7_recall_42 ?_
            refine g_iload 6 dX7_recall_45 rfl ?_
            refine g_iald 3 dX7_recall_47 rfl (by decide) (by omega) (by omega) ?_
            have q_8 := hlt i
            refine g_iload_n 1 dX7_recall_48 rfl rfl ?_
            refine g_icmp_ne (tgt := 125) (by unfold R32; omega) (by unfold R32; omega) dX7_recall_49 rfl (fun c_9 => ?_) (fun c_9 => ?_)
            · refine g_aload_n 0 dX7_recall_52 rfl rfl ?_
              refine g_get (C := RX7) (T := TX7) (N := 43) 0 27 (fun _ h => List.mem_cons_of_mem _ (List.mem_append_right _ h)) (List.mem_of_getElem? (i := 3) rfl) rfl rfl (by decide) rfl rfl dX7_recall_53 ?_
              refine g_iload 6 dX7_recall_56 rfl ?_
              refine g_iald 1 dX7_recall_58 rfl (by decide) (by omega) (by omega) ?_
              have q_10 := hbo i
              refine g_istore (lv1 := [(7, .int (iI (bo i))), (0, .ref m0), (1, .int (iI lot)), (2, .int (iI what)), (3, .int w1), (4, .int w2), (5, .int (iI w3)), (6, .int (iI i))]) dX7_recall_59 (by decide) rfl ?_
              refine g_iload 6 dX7_recall_61 rfl ?_
              refine g_iload 0 dX7_recall_63 rfl ?_
              refine g_if_ge (tgt := 72) (by unfold R32; omega) dX7_recall_65 rfl (fun c_11 => ?_) (fun c_11 => ?_)
              · refine g_iconst dX7_recall_72 ?_
                refine g_iadd dX7_recall_73 ?_
                refine g_istore (lv1 := [(5, .int (iI (w3 + 0))), (7, .int (iI (bo i))), (0, .ref m0), (1, .int (iI lot)), (2, .int (iI what)), (3, .int w1), (4, .int w2), (6, .int (iI i))]) dX7_recall_74 (by decide) rfl ?_
                refine g_iload_n 5 dX7_recall_76 rfl rfl ?_
                refine g_iload 1 dX7_recall_77 rfl ?_
                refine g_if_ge (tgt := 86) (by unfold R32; omega) dX7_recall_79 rfl (fun c_12 => ?_) (fun c_12 => ?_)
                · refine g_iconst dX7_recall_86 ?_
                  refine g_iload 1 dX7_recall_87 rfl ?_
                  refine g_ishl dX7_recall_89 ?_
                  refine g_ior dX7_recall_90 ?_
                  refine g_istore_n (lv1 := [(3, .int (w1 ||| ((iI 1) <<< ((iI (bo i)) &&& 31)))), (5, .int (iI (w3 + 0))), (7, .int (iI (bo i))), (0, .ref m0), (1, .int (iI lot)), (2, .int (iI what)), (4, .int w2), (6, .int (iI i))]) dX7_recall_91 rfl (by decide) rfl ?_
                  refine g_iload 6 dX7_recall_92 rfl ?_
                  refine g_iload 2 dX7_recall_94 rfl ?_
                  refine g_if_lt (tgt := 109) (by unfold R32; omega) dX7_recall_96 rfl (fun c_13 => ?_) (fun c_13 => ?_)
                  · refine g_iconst dX7_recall_109 ?_
                    refine g_goto (tgt := 122) dX7_recall_110 rfl ?_
                    refine g_ior dX7_recall_122 ?_
                    refine g_istore (lv1 := [(4, .int (w2 ||| (iI 0))), (3, .int (w1 ||| ((iI 1) <<< ((iI (bo i)) &&& 31)))), (5, .int (iI (w3 + 0))), (7, .int (iI (bo i))), (0, .ref m0), (1, .int (iI lot)), (2, .int (iI what)), (6, .int (iI i))]) dX7_recall_123 (by decide) rfl ?_
                    refine g_iinc (lv1 := [(6, .int (iI (i + 1))), (4, .int (w2 ||| (iI 0))), (3, .int (w1 ||| ((iI 1) <<< ((iI (bo i)) &&& 31)))), (5, .int (iI (w3 + 0))), (7, .int (iI (bo i))), (0, .ref m0), (1, .int (iI lot)), (2, .int (iI what))]) 7 dX7_recall_125 rfl (by decide) rfl ?_
                    refine g_goto (tgt := 32) dX7_recall_128 rfl ?_
                    refine g_lv (lv1 := [(0, .ref m0), (1, .int (iI lot)), (2, .int (iI what)), (3, .int (w1 ||| ((iI 1) <<< ((iI (bo i)) &&& 31)))), (4, .int (w2 ||| (iI 0))), (5, .int (iI (w3 + 0))), (6, .int (iI (i + 1)))]) [5, 6, 7, 2, 1, 3, 0] rfl ?_
                    exact ih32 (i + 1) (w1 ||| ((iI 1) <<< ((iI (bo i)) &&& 31))) (w2 ||| (iI 0)) (w3 + 0) (by omega) (by rw [oI_s _ _ (by omega), ← hw1]; first | (rw [if_neg (by omega)]; done) | (rw [if_neg (by omega)]; exact or0 _) | (rw [if_pos (by omega)]; done)) (by have hp := pOf_d bo pl i; rw [oI_s _ _ (by omega), ← hw2]; first | (rw [if_neg (by omega)]; done) | (rw [if_neg (by omega)]; exact or0 _) | (rw [if_pos (by omega), hp.1 (by omega)]; done)) (by rw [sI_s _ (by omega), ← hw3]; (try dsimp only); split <;> omega) (by omega)
                  · refine g_aload_n 3 dX7_recall_99 rfl rfl ?_
                    refine g_get (C := RX7) (T := TX7) (N := 43) 0 30 (fun _ h => List.mem_cons_of_mem _ (List.mem_append_right _ h)) (List.mem_of_getElem? (i := 4) rfl) rfl rfl (by decide) rfl rfl dX7_recall_100 ?_
                    refine g_iload 2 dX7_recall_103 rfl ?_
                    refine g_iald 2 dX7_recall_105 rfl (by decide) (by omega) (by omega) ?_
                    have q_14 := hpl (bo i)
                    refine g_if_ge (tgt := 113) (by unfold R32; omega) dX7_recall_106 rfl (fun c_15 => ?_) (fun c_15 => ?_)
                    · refine g_iconst dX7_recall_113 ?_
                      refine g_aload_n 3 dX7_recall_114 rfl rfl ?_
                      refine g_get (C := RX7) (T := TX7) (N := 43) 0 30 (fun _ h => List.mem_cons_of_mem _ (List.mem_append_right _ h)) (List.mem_of_getElem? (i := 4) rfl) rfl rfl (by decide) rfl rfl dX7_recall_115 ?_
                      refine g_iload 2 dX7_recall_118 rfl ?_
                      refine g_iald 2 dX7_recall_120 rfl (by decide) (by omega) (by omega) ?_
                      have q_16 := hpl (bo i)
                      refine g_ishl dX7_recall_121 ?_
                      refine g_ior dX7_recall_122 ?_
                      refine g_istore (lv1 := [(4, .int (w2 ||| ((iI 1) <<< ((iI (pl (bo i))) &&& 31)))), (3, .int (w1 ||| ((iI 1) <<< ((iI (bo i)) &&& 31)))), (5, .int (iI (w3 + 0))), (7, .int (iI (bo i))), (0, .ref m0), (1, .int (iI lot)), (2, .int (iI what)), (6, .int (iI i))]) dX7_recall_123 (by decide) rfl ?_
                      refine g_iinc (lv1 := [(6, .int (iI (i + 1))), (4, .int (w2 ||| ((iI 1) <<< ((iI (pl (bo i))) &&& 31)))), (3, .int (w1 ||| ((iI 1) <<< ((iI (bo i)) &&& 31)))), (5, .int (iI (w3 + 0))), (7, .int (iI (bo i))), (0, .ref m0), (1, .int (iI lot)), (2, .int (iI what))]) 7 dX7_recall_125 rfl (by decide) rfl ?_
                      refine g_goto (tgt := 32) dX7_recall_128 rfl ?_
                      refine g_lv (lv1 := [(0, .ref m0), (1, .int (iI lot)), (2, .int (iI what)), (3, .int (w1 ||| ((iI 1) <<< ((iI (bo i)) &&& 31)))), (4, .int (w2 ||| ((iI 1) <<< ((iI (pl (bo i))) &&& 31)))), (5, .int (iI (w3 + 0))), (6, .int (iI (i + 1)))]) [5, 6, 7, 2, 1, 3, 0] rfl ?_
                      exact ih32 (i + 1) (w1 ||| ((iI 1) <<< ((iI (bo i)) &&& 31))) (w2 ||| ((iI 1) <<< ((iI (pl (bo i))) &&& 31))) (w3 + 0) (by omega) (by rw [oI_s _ _ (by omega), ← hw1]; first | (rw [if_neg (by omega)]; done) | (rw [if_neg (by omega)]; exact or0 _) | (rw [if_pos (by omega)]; done)) (by have hp := pOf_d bo pl i; rw [oI_s _ _ (by omega), ← hw2]; first | (rw [if_neg (by omega)]; done) | (rw [if_neg (by omega)]; exact or0 _) | (rw [if_pos (by omega), hp.1 (by omega)]; done)) (by rw [sI_s _ (by omega), ← hw3]; (try dsimp only); split <;> omega) (by omega)
                    · refine g_iconst dX7_recall_109 ?_
                      refine g_goto (tgt := 122) dX7_recall_110 rfl ?_
                      refine g_ior dX7_recall_122 ?_
                      refine g_istore (lv1 := [(4, .int (w2 ||| (iI 0))), (3, .int (w1 ||| ((iI 1) <<< ((iI (bo i)) &&& 31)))), (5, .int (iI (w3 + 0))), (7, .int (iI (bo i))), (0, .ref m0), (1, .int (iI lot)), (2, .int (iI what)), (6, .int (iI i))]) dX7_recall_123 (by decide) rfl ?_
                      refine g_iinc (lv1 := [(6, .int (iI (i + 1))), (4, .int (w2 ||| (iI 0))), (3, .int (w1 ||| ((iI 1) <<< ((iI (bo i)) &&& 31)))), (5, .int (iI (w3 + 0))), (7, .int (iI (bo i))), (0, .ref m0), (1, .int (iI lot)), (2, .int (iI what))]) 7 dX7_recall_125 rfl (by decide) rfl ?_
                      refine g_goto (tgt := 32) dX7_recall_128 rfl ?_
                      refine g_lv (lv1 := [(0, .ref m0), (1, .int (iI lot)), (2, .int (iI what)), (3, .int (w1 ||| ((iI 1) <<< ((iI (bo i)) &&& 31)))), (4, .int (w2 ||| (iI 0))), (5, .int (iI (w3 + 0))), (6, .int (iI (i + 1)))]) [5, 6, 7, 2, 1, 3, 0] rfl ?_
                      exact ih32 (i + 1) (w1 ||| ((iI 1) <<< ((iI (bo i)) &&& 31))) (w2 ||| (iI 0)) (w3 + 0) (by omega) (by rw [oI_s _ _ (by omega), ← hw1]; first | (rw [if_neg (by omega)]; done) | (rw [if_neg (by omega)]; exact or0 _) | (rw [if_pos (by omega)]; done)) (by have hp := pOf_d bo pl i; rw [oI_s _ _ (by omega), ← hw2]; first | (rw [if_neg (by omega)]; done) | (rw [if_neg (by omega)]; exact or0 _) | (rw [if_pos (by omega), hp.1 (by omega)]; done)) (by rw [sI_s _ (by omega), ← hw3]; (try dsimp only); split <;> omega) (by omega)
                · exact absurd c_11 (by assumption)
              · refine g_iconst dX7_recall_68 ?_
                refine g_goto (tgt := 73) dX7_recall_69 rfl ?_
                refine g_iadd dX7_recall_73 ?_
                refine g_istore (lv1 := [(5, .int (iI (w3 + 1))), (7, .int (iI (bo i))), (0, .ref m0), (1, .int (iI lot)), (2, .int (iI what)), (3, .int w1), (4, .int w2), (6, .int (iI i))]) dX7_recall_74 (by decide) rfl ?_
                refine g_iload_n 5 dX7_recall_76 rfl rfl ?_
                refine g_iload 1 dX7_recall_77 rfl ?_
                refine g_if_ge (tgt := 86) (by unfold R32; omega) dX7_recall_79 rfl (fun c_17 => ?_) (fun c_17 => ?_)
                · exact absurd (by assumption) c_11
                · refine g_iconst dX7_recall_82 ?_
                  refine g_goto (tgt := 90) dX7_recall_83 rfl ?_
                  refine g_ior dX7_recall_90 ?_
                  refine g_istore_n (lv1 := [(3, .int (w1 ||| (iI 0))), (5, .int (iI (w3 + 1))), (7, .int (iI (bo i))), (0, .ref m0), (1, .int (iI lot)), (2, .int (iI what)), (4, .int w2), (6, .int (iI i))]) dX7_recall_91 rfl (by decide) rfl ?_
                  refine g_iload 6 dX7_recall_92 rfl ?_
                  refine g_iload 2 dX7_recall_94 rfl ?_
                  refine g_if_lt (tgt := 109) (by unfold R32; omega) dX7_recall_96 rfl (fun c_18 => ?_) (fun c_18 => ?_)
                  · refine g_iconst dX7_recall_109 ?_
                    refine g_goto (tgt := 122) dX7_recall_110 rfl ?_
                    refine g_ior dX7_recall_122 ?_
                    refine g_istore (lv1 := [(4, .int (w2 ||| (iI 0))), (3, .int (w1 ||| (iI 0))), (5, .int (iI (w3 + 1))), (7, .int (iI (bo i))), (0, .ref m0), (1, .int (iI lot)), (2, .int (iI what)), (6, .int (iI i))]) dX7_recall_123 (by decide) rfl ?_
                    refine g_iinc (lv1 := [(6, .int (iI (i + 1))), (4, .int (w2 ||| (iI 0))), (3, .int (w1 ||| (iI 0))), (5, .int (iI (w3 + 1))), (7, .int (iI (bo i))), (0, .ref m0), (1, .int (iI lot)), (2, .int (iI what))]) 7 dX7_recall_125 rfl (by decide) rfl ?_
                    refine g_goto (tgt := 32) dX7_recall_128 rfl ?_
                    refine g_lv (lv1 := [(0, .ref m0), (1, .int (iI lot)), (2, .int (iI what)), (3, .int (w1 ||| (iI 0))), (4, .int (w2 ||| (iI 0))), (5, .int (iI (w3 + 1))), (6, .int (iI (i + 1)))]) [5, 6, 7, 2, 1, 3, 0] rfl ?_
                    exact ih32 (i + 1) (w1 ||| (iI 0)) (w2 ||| (iI 0)) (w3 + 1) (by omega) (by rw [oI_s _ _ (by omega), ← hw1]; first | (rw [if_neg (by omega)]; done) | (rw [if_neg (by omega)]; exact or0 _) | (rw [if_pos (by omega)]; done)) (by have hp := pOf_d bo pl i; rw [oI_s _ _ (by omega), ← hw2]; first | (rw [if_neg (by omega)]; done) | (rw [if_neg (by omega)]; exact or0 _) | (rw [if_pos (by omega), hp.1 (by omega)]; done)) (by rw [sI_s _ (by omega), ← hw3]; (try dsimp only); split <;> omega) (by omega)
                  · refine g_aload_n 3 dX7_recall_99 rfl rfl ?_
                    refine g_get (C := RX7) (T := TX7) (N := 43) 0 30 (fun _ h => List.mem_cons_of_mem _ (List.mem_append_right _ h)) (List.mem_of_getElem? (i := 4) rfl) rfl rfl (by decide) rfl rfl dX7_recall_100 ?_
                    refine g_iload 2 dX7_recall_103 rfl ?_
                    refine g_iald 2 dX7_recall_105 rfl (by decide) (by omega) (by omega) ?_
                    have q_19 := hpl (bo i)
                    refine g_if_ge (tgt := 113) (by unfold R32; omega) dX7_recall_106 rfl (fun c_20 => ?_) (fun c_20 => ?_)
                    · refine g_iconst dX7_recall_113 ?_
                      refine g_aload_n 3 dX7_recall_114 rfl rfl ?_
                      refine g_get (C := RX7) (T := TX7) (N := 43) 0 30 (fun _ h => List.mem_cons_of_mem _ (List.mem_append_right _ h)) (List.mem_of_getElem? (i := 4) rfl) rfl rfl (by decide) rfl rfl dX7_recall_115 ?_
                      refine g_iload 2 dX7_recall_118 rfl ?_
                      refine g_iald 2 dX7_recall_120 rfl (by decide) (by omega) (by omega) ?_
                      have q_21 := hpl (bo i)
                      refine g_ishl dX7_recall_121 ?_
                      refine g_ior dX7_recall_122 ?_
                      refine g_istore (lv1 := [(4, .int (w2 ||| ((iI 1) <<< ((iI (pl (bo i))) &&& 31)))), (3, .int (w1 ||| (iI 0))), (5, .int (iI (w3 + 1))), (7, .int (iI (bo i))), (0, .ref m0), (1, .int (iI lot)), (2, .int (iI what)), (6, .int (iI i))]) dX7_recall_123 (by decide) rfl ?_
                      refine g_iinc (lv1 := [(6, .int (iI (i + 1))), (4, .int (w2 ||| ((iI 1) <<< ((iI (pl (bo i))) &&& 31)))), (3, .int (w1 ||| (iI 0))), (5, .int (iI (w3 + 1))), (7, .int (iI (bo i))), (0, .ref m0), (1, .int (iI lot)), (2, .int (iI what))]) 7 dX7_recall_125 rfl (by decide) rfl ?_
                      refine g_goto (tgt := 32) dX7_recall_128 rfl ?_
                      refine g_lv (lv1 := [(0, .ref m0), (1, .int (iI lot)), (2, .int (iI what)), (3, .int (w1 ||| (iI 0))), (4, .int (w2 ||| ((iI 1) <<< ((iI (pl (bo i))) &&& 31)))), (5, .int (iI (w3 + 1))), (6, .int (iI (i + 1)))]) [5, 6, 7, 2, 1, 3, 0] rfl ?_
                      exact ih32 (i + 1) (w1 ||| (iI 0)) (w2 ||| ((iI 1) <<< ((iI (pl (bo i))) &&& 31))) (w3 + 1) (by omega) (by rw [oI_s _ _ (by omega), ← hw1]; first | (rw [if_neg (by omega)]; done) | (rw [if_neg (by omega)]; exact or0 _) | (rw [if_pos (by omega)]; done)) (by have hp := pOf_d bo pl i; rw [oI_s _ _ (by omega), ← hw2]; first | (rw [if_neg (by omega)]; done) | (rw [if_neg (by omega)]; exact or0 _) | (rw [if_pos (by omega), hp.1 (by omega)]; done)) (by rw [sI_s _ (by omega), ← hw3]; (try dsimp only); split <;> omega) (by omega)
                    · refine g_iconst dX7_recall_109 ?_
                      refine g_goto (tgt := 122) dX7_recall_110 rfl ?_
                      refine g_ior dX7_recall_122 ?_
                      refine g_istore (lv1 := [(4, .int (w2 ||| (iI 0))), (3, .int (w1 ||| (iI 0))), (5, .int (iI (w3 + 1))), (7, .int (iI (bo i))), (0, .ref m0), (1, .int (iI lot)), (2, .int (iI what)), (6, .int (iI i))]) dX7_recall_123 (by decide) rfl ?_
                      refine g_iinc (lv1 := [(6, .int (iI (i + 1))), (4, .int (w2 ||| (iI 0))), (3, .int (w1 ||| (iI 0))), (5, .int (iI (w3 + 1))), (7, .int (iI (bo i))), (0, .ref m0), (1, .int (iI lot)), (2, .int (iI what))]) 7 dX7_recall_125 rfl (by decide) rfl ?_
                      refine g_goto (tgt := 32) dX7_recall_128 rfl ?_
                      refine g_lv (lv1 := [(0, .ref m0), (1, .int (iI lot)), (2, .int (iI what)), (3, .int (w1 ||| (iI 0))), (4, .int (w2 ||| (iI 0))), (5, .int (iI (w3 + 1))), (6, .int (iI (i + 1)))]) [5, 6, 7, 2, 1, 3, 0] rfl ?_
                      exact ih32 (i + 1) (w1 ||| (iI 0)) (w2 ||| (iI 0)) (w3 + 1) (by omega) (by rw [oI_s _ _ (by omega), ← hw1]; first | (rw [if_neg (by omega)]; done) | (rw [if_neg (by omega)]; exact or0 _) | (rw [if_pos (by omega)]; done)) (by have hp := pOf_d bo pl i; rw [oI_s _ _ (by omega), ← hw2]; first | (rw [if_neg (by omega)]; done) | (rw [if_neg (by omega)]; exact or0 _) | (rw [if_pos (by omega), hp.1 (by omega)]; done)) (by rw [sI_s _ (by omega), ← hw3]; (try dsimp only); split <;> omega) (by omega)
            · refine g_iinc (lv1 := [(6, .int (iI (i + 1))), (0, .ref m0), (1, .int (iI lot)), (2, .int (iI what)), (3, .int w1), (4, .int w2), (5, .int (iI w3))]) 6 dX7_recall_125 rfl (by decide) rfl ?_
              refine g_goto (tgt := 32) dX7_recall_128 rfl ?_
              refine g_lv (lv1 := [(0, .ref m0), (1, .int (iI lot)), (2, .int (iI what)), (3, .int w1), (4, .int w2), (5, .int (iI w3)), (6, .int (iI (i + 1)))]) [1, 2, 3, 4, 5, 6, 0] rfl ?_
              exact ih32 (i + 1) w1 w2 w3 (by omega) (by rw [oI_s _ _ (by omega), ← hw1]; first | (rw [if_neg (by omega)]; done) | (rw [if_neg (by omega)]; exact or0 _) | (rw [if_pos (by omega)]; done)) (by have hp := pOf_d bo pl i; rw [oI_s _ _ (by omega), ← hw2]; first | (rw [if_neg (by omega)]; done) | (rw [if_neg (by omega)]; exact or0 _) | (rw [if_pos (by omega), hp.1 (by omega)]; done)) (by rw [sI_s _ (by omega), ← hw3]; (try dsimp only); split <;> omega) (by omega)
      exact L32 _ 0 (iI 0) (iI 0) 0 (by omega) (by rfl) (by rfl) (by rfl) (lt_nn _)
    · refine g_iconst dX7_recall_19 ?_
      exact g_iret hRet dX7_recall_20 rfl ⟨(by unfold f_recall; rw [if_pos (by omega)]), rfl⟩
  · refine g_iconst dX7_recall_19 ?_
    exact g_iret hRet dX7_recall_20 rfl ⟨(by unfold f_recall; rw [if_pos (by omega)]), rfl⟩

theorem isL_y {bo : Int → Int} {cn box l : Int} (h : isL bo cn box l) (h0 : ctI bo cn box ≠ 0) : 0 ≤ l ∧ l < cn ∧ bo l = box := by
  rcases h with ⟨-, h⟩ | ⟨h1, h2, h3, -⟩
  · exact absurd (ctI_no h) h0
  · exact ⟨h1, h2, h3⟩
theorem isG_y {bo : Int → Int} {cn box l g : Int} (h : isG bo cn box g) (h0 : 0 ≤ l ∧ l < cn ∧ bo l = box) : l ≤ g ∧ g < cn ∧ bo g = box := by
  rcases h with ⟨-, h⟩ | ⟨h1, h2, h3, h4⟩
  · exact absurd h0.2.2 (h l h0.1 h0.2.1)
  · refine ⟨?_, h2, h3⟩
    by_cases q : g < l
    · exact absurd h0.2.2 (h4 l q h0.2.1)
    · omega

set_option maxHeartbeats 4000000 in
set_option maxRecDepth 100000 in
theorem c_X7_weigh (E : Ev) (m0 : Nat) (ra : Nat → Nat) (mm : Int) (nf : Int) (ti : Int) (so : Int) (ta : Int) (go : Int) (sl : Int) (lo : Int) (cn : Int) (lx : Int) (ly : Int) (pm : Int) (pi : Int) (bo : Int → Int) (cl : Int → Int) (ru : Int → Int) (un : Int → Int) (box : Int) (wt : Int) (hcn : 0 ≤ cn ∧ cn ≤ 200) (hbo : ∀ k, (bo k = -4 ∨ 0 ≤ bo k) ∧ bo k ≤ 29) (hcl : ∀ k, 0 ≤ cl k ∧ cl k ≤ 1) (hru : (1 ≤ ru 0 ∧ ru 0 ≤ 12) ∧ (1 ≤ ru 1 ∧ ru 1 ≤ 20) ∧ (0 ≤ ru 2 ∧ ru 2 ≤ 10000) ∧ (0 ≤ ru 3 ∧ ru 3 ≤ 10000) ∧ (0 ≤ ru 4 ∧ ru 4 ≤ 1000) ∧ (0 ≤ ru 5 ∧ ru 5 ≤ 500)) (h_box : -2147483648 ≤ box ∧ box ≤ 2147483647) (h_wt : -2147483648 ≤ wt ∧ wt ≤ 2147483647) (hun : ∀ c, 0 ≤ c → c < 30 → un c = ctI bo cn c) : MI yX7_weigh wsX7_weigh ({ frames := 2, cells := 0, slots := 0, locals := 42 } : Room) E [] 0 0 [.ref m0, .int (iI box), .int (iI wt)] [(m0, oo 7 (fMo ra mm nf ti so ta go sl lo cn lx ly pm pi)), (ra 27, aI E 200 bo), (ra 29, aZ E 30 cl), (ra 32, aI E 6 ru)] (fun r u => ∃ (x : Int), ∃ (bo' : Int → Int), ∃ (un' : Int → Int), ∃ (cl' : Int → Int), sp_weigh cn bo cl un ru box wt x bo' un' cl' ∧ r = iI x ∧ u = [(m0, oo 7 (fMo ra mm nf ti so ta go sl lo cn lx ly pm pi)), (ra 27, aI E 200 bo'), (ra 29, aZ E 30 cl'), (ra 32, aI E 6 ru)]) := by
  refine MI.of (cc := cX7_weigh) (maxL := 7) (own := RX7) (by decide) rfl rfl rfl (Nat.le_of_ble_eq_true rfl) [(0, .ref m0), (1, .int (iI box)), (2, .int (iI wt))] rfl ?_
  intro X hin2 hRet
  refine g_iload_n 1 dX7_weigh_0 rfl rfl ?_
  refine g_callS_i (n := 1) (As := [.int (iI box)]) (wr := [(m0, oo 7 (fMo ra mm nf ti so ta go sl lo cn lx ly pm pi)), (ra 27, aI E 200 bo), (ra 29, aZ E 30 cl), (ra 32, aI E 6 ru)]) [] (c_X7_isCase E box (by omega)) [] [0, 1, 2, 3] gX7_weigh_X7_isCase rfl ⟨rfl, by decide +kernel⟩ ⟨by decide, by decide⟩ rfl rfl rfl rfl rfl (by decide) rfl (by decide) (by decide) (fun _ h => absurd h List.not_mem_nil) dX7_weigh_1 rfl (Nat.le_of_ble_eq_true rfl) ⟨by decide, by decide⟩ (fun r u p_1 => ?_)
  obtain ⟨rfl, rfl⟩ := p_1
  refine g_perm (ws1 := [(m0, oo 7 (fMo ra mm nf ti so ta go sl lo cn lx ly pm pi)), (ra 27, aI E 200 bo), (ra 29, aZ E 30 cl), (ra 32, aI E 6 ru)]) [0, 1, 2, 3] rfl (by decide) rfl ?_
  refine g_if_eq_b (tgt := 17) dX7_weigh_4 rfl (fun c_2 => ?_) (fun c_2 => ?_)
  · refine g_iload_n 2 dX7_weigh_7 rfl rfl ?_
    refine g_iconst dX7_weigh_8 ?_
    refine g_ldc (index := 170) 1000000 (List.mem_of_getElem? (i := 1) rfl) dX7_weigh_9 rfl ?_
    refine g_callS_i (n := 3) (As := [.int (iI wt), .int (iI 0), .int (iI 1000000)]) (wr := [(m0, oo 7 (fMo ra mm nf ti so ta go sl lo cn lx ly pm pi)), (ra 27, aI E 200 bo), (ra 29, aZ E 30 cl), (ra 32, aI E 6 ru)]) [] (c_X7_in E wt 0 1000000 (by omega) (by omega) (by omega)) [] [0, 1, 2, 3] gX7_weigh_X7_in rfl ⟨rfl, by decide +kernel⟩ ⟨by decide, by decide⟩ rfl rfl rfl rfl rfl (by decide) rfl (by decide) (by decide) (fun _ h => absurd h List.not_mem_nil) dX7_weigh_11 rfl (Nat.le_of_ble_eq_true rfl) ⟨by decide, by decide⟩ (fun r u p_3 => ?_)
    obtain ⟨rfl, rfl⟩ := p_3
    refine g_perm (ws1 := [(m0, oo 7 (fMo ra mm nf ti so ta go sl lo cn lx ly pm pi)), (ra 27, aI E 200 bo), (ra 29, aZ E 30 cl), (ra 32, aI E 6 ru)]) [0, 1, 2, 3] rfl (by decide) rfl ?_
    refine g_if_ne_b (tgt := 19) dX7_weigh_14 rfl (fun c_4 => ?_) (fun c_4 => ?_)
    · have hm := mul_b (a := ru 0) (b := ru 2) (by omega) (by omega) (by omega) (by omega)
      refine g_iload_n 2 dX7_weigh_19 rfl rfl ?_
      refine g_aload_n 0 dX7_weigh_20 rfl rfl ?_
      refine g_get (C := RX7) (T := TX7) (N := 43) 0 32 (fun _ h => List.mem_cons_of_mem _ (List.mem_append_right _ h)) (List.mem_of_getElem? (i := 2) rfl) rfl rfl (by decide) rfl rfl dX7_weigh_21 ?_
      refine g_iconst dX7_weigh_24 ?_
      refine g_iald 3 dX7_weigh_25 rfl (by decide) (by omega) (by omega) ?_
      refine g_aload_n 0 dX7_weigh_26 rfl rfl ?_
      refine g_get (C := RX7) (T := TX7) (N := 43) 0 32 (fun _ h => List.mem_cons_of_mem _ (List.mem_append_right _ h)) (List.mem_of_getElem? (i := 2) rfl) rfl rfl (by decide) rfl rfl dX7_weigh_27 ?_
      refine g_iconst dX7_weigh_30 ?_
      refine g_iald 3 dX7_weigh_31 rfl (by decide) (by omega) (by omega) ?_
      refine g_imul dX7_weigh_32 ?_
      refine g_isub dX7_weigh_33 ?_
      refine g_aload_n 0 dX7_weigh_34 rfl rfl ?_
      refine g_get (C := RX7) (T := TX7) (N := 43) 0 32 (fun _ h => List.mem_cons_of_mem _ (List.mem_append_right _ h)) (List.mem_of_getElem? (i := 2) rfl) rfl rfl (by decide) rfl rfl dX7_weigh_35 ?_
      refine g_iconst dX7_weigh_38 ?_
      refine g_iald 3 dX7_weigh_39 rfl (by decide) (by omega) (by omega) ?_
      refine g_isub dX7_weigh_40 ?_
      refine g_istore_n (lv1 := [(3, .int (iI ((wt - ((ru 0) * (ru 2))) - (ru 3)))), (0, .ref m0), (1, .int (iI box)), (2, .int (iI wt))]) dX7_weigh_41 rfl (by decide) rfl ?_
      refine g_aload_n 1 dX7_weigh_42 rfl rfl ?_
      refine g_get (C := RX7) (T := TX7) (N := 43) 0 29 (fun _ h => List.mem_cons_of_mem _ (List.mem_append_right _ h)) (List.mem_of_getElem? (i := 3) rfl) rfl rfl (by decide) rfl rfl dX7_weigh_43 ?_
      refine g_iload_n 2 dX7_weigh_46 rfl rfl ?_
      refine g_zald 2 dX7_weigh_47 rfl (by decide) (by omega) (by omega) ?_
      have q_5 := hcl box
      refine g_if_ne (tgt := 95) (by unfold R32; omega) dX7_weigh_48 rfl (fun c_6 => ?_) (fun c_6 => ?_)
      · refine g_aload_n 1 dX7_weigh_51 rfl rfl ?_
        refine g_iload_n 2 dX7_weigh_52 rfl rfl ?_
        refine g_callV_i (n := 1) (As := [.int (iI box)]) (wr := [(ra 29, aZ E 30 cl), (ra 32, aI E 6 ru)]) (C := RX7) [] (c_X7_units E m0 ra mm nf ti so ta go sl lo cn lx ly pm pi bo box (by omega) (by omega) (by omega)) [0, 1] [2, 3] 0 rfl rfl gX7_weigh_X7_units rfl ⟨rfl, by decide +kernel⟩ ⟨by decide, by decide⟩ rfl rfl rfl rfl rfl (by decide) rfl (by decide) (by decide) (fun _ h => absurd h List.not_mem_nil) dX7_weigh_53 rfl (Nat.le_of_ble_eq_true rfl) ⟨by decide, by decide⟩ (fun r u p_7 => ?_)
        obtain ⟨rfl, rfl⟩ := p_7
        refine g_perm (ws1 := [(m0, oo 7 (fMo ra mm nf ti so ta go sl lo cn lx ly pm pi)), (ra 27, aI E 200 bo), (ra 29, aZ E 30 cl), (ra 32, aI E 6 ru)]) [2, 3, 0, 1] rfl (by decide) rfl ?_
        have hu := hun box (by omega) (by omega)
        have hub := ctI_b bo box hcn.1
        refine g_aload_n 1 dX7_weigh_56 rfl rfl ?_
        refine g_get (C := RX7) (T := TX7) (N := 43) 0 32 (fun _ h => List.mem_cons_of_mem _ (List.mem_append_right _ h)) (List.mem_of_getElem? (i := 2) rfl) rfl rfl (by decide) rfl rfl dX7_weigh_57 ?_
        refine g_iconst dX7_weigh_60 ?_
        refine g_iald 3 dX7_weigh_61 rfl (by decide) (by omega) (by omega) ?_
        refine g_iconst dX7_weigh_62 ?_
        refine g_isub dX7_weigh_63 ?_
        refine g_icmp_ne (tgt := 95) (by unfold R32; omega) (by unfold R32; omega) dX7_weigh_64 rfl (fun c_8 => ?_) (fun c_8 => ?_)
        · refine g_aload_n 1 dX7_weigh_67 rfl rfl ?_
          refine g_iload_n 2 dX7_weigh_68 rfl rfl ?_
          refine g_callV_i (n := 1) (As := [.int (iI box)]) (wr := [(ra 29, aZ E 30 cl), (ra 32, aI E 6 ru)]) (C := RX7) [] (c_X7_units E m0 ra mm nf ti so ta go sl lo cn lx ly pm pi bo box (by omega) (by omega) (by omega)) [0, 1] [2, 3] 0 rfl rfl gX7_weigh_X7_units rfl ⟨rfl, by decide +kernel⟩ ⟨by decide, by decide⟩ rfl rfl rfl rfl rfl (by decide) rfl (by decide) (by decide) (fun _ h => absurd h List.not_mem_nil) dX7_weigh_69 rfl (Nat.le_of_ble_eq_true rfl) ⟨by decide, by decide⟩ (fun r u p_9 => ?_)
          obtain ⟨rfl, rfl⟩ := p_9
          refine g_perm (ws1 := [(m0, oo 7 (fMo ra mm nf ti so ta go sl lo cn lx ly pm pi)), (ra 27, aI E 200 bo), (ra 29, aZ E 30 cl), (ra 32, aI E 6 ru)]) [2, 3, 0, 1] rfl (by decide) rfl ?_
          refine g_if_eq (tgt := 95) (by unfold R32; omega) dX7_weigh_72 rfl (fun c_10 => ?_) (fun c_10 => ?_)
          · refine g_bipush dX7_weigh_95 rfl ?_
            exact g_iret hRet dX7_weigh_97 rfl ⟨(-2), bo, un, cl, (by unfold sp_weigh; rw [if_neg (by omega)]; by_cases hoff : wt - (ru 0 * ru 2 + ru 3) < -ru 4 ∨ ru 4 < wt - (ru 0 * ru 2 + ru 3); (rw [if_pos hoff]; exact ⟨rfl, rfl, rfl, rfl⟩); rw [if_neg hoff]; unfold sLost; by_cases hc : cl box ≠ 0 ∨ un box ≠ ru 0 - 1; (rw [if_pos hc]; exact ⟨rfl, rfl, rfl, rfl⟩); rw [if_neg hc]; have hz : ctI bo cn box = 0 := (by have hu2 := hun box (by omega) (by omega); omega); refine ⟨-4, -4, -4, Or.inl ⟨rfl, ctI_0 hz⟩, Or.inl ⟨rfl, ctI_0 hz⟩, Or.inl ⟨rfl, ?_⟩, ?_⟩; (rintro ⟨j, j1, j2, j3, j4, -⟩; omega); rw [if_neg (by omega)]; exact ⟨rfl, rfl, rfl, rfl⟩), rfl, rfl⟩
          · refine g_iload_n 0 dX7_weigh_75 rfl rfl ?_
            refine g_aload_n 1 dX7_weigh_76 rfl rfl ?_
            refine g_get (C := RX7) (T := TX7) (N := 43) 0 32 (fun _ h => List.mem_cons_of_mem _ (List.mem_append_right _ h)) (List.mem_of_getElem? (i := 2) rfl) rfl rfl (by decide) rfl rfl dX7_weigh_77 ?_
            refine g_iconst dX7_weigh_80 ?_
            refine g_iald 3 dX7_weigh_81 rfl (by decide) (by omega) (by omega) ?_
            refine g_ineg dX7_weigh_82 ?_
            refine g_aload_n 1 dX7_weigh_83 rfl rfl ?_
            refine g_get (C := RX7) (T := TX7) (N := 43) 0 32 (fun _ h => List.mem_cons_of_mem _ (List.mem_append_right _ h)) (List.mem_of_getElem? (i := 2) rfl) rfl rfl (by decide) rfl rfl dX7_weigh_84 ?_
            refine g_iconst dX7_weigh_87 ?_
            refine g_iald 3 dX7_weigh_88 rfl (by decide) (by omega) (by omega) ?_
            refine g_callS_i (n := 3) (As := [.int (iI ((wt - ((ru 0) * (ru 2))) - (ru 3))), .int (iI (-(ru 4))), .int (iI (ru 4))]) (wr := [(m0, oo 7 (fMo ra mm nf ti so ta go sl lo cn lx ly pm pi)), (ra 27, aI E 200 bo), (ra 29, aZ E 30 cl), (ra 32, aI E 6 ru)]) [] (c_X7_in E ((wt - ((ru 0) * (ru 2))) - (ru 3)) (-(ru 4)) (ru 4) (by omega) (by omega) (by omega)) [] [0, 1, 2, 3] gX7_weigh_X7_in rfl ⟨rfl, by decide +kernel⟩ ⟨by decide, by decide⟩ rfl rfl rfl rfl rfl (by decide) rfl (by decide) (by decide) (fun _ h => absurd h List.not_mem_nil) dX7_weigh_89 rfl (Nat.le_of_ble_eq_true rfl) ⟨by decide, by decide⟩ (fun r u p_11 => ?_)
            obtain ⟨rfl, rfl⟩ := p_11
            refine g_perm (ws1 := [(m0, oo 7 (fMo ra mm nf ti so ta go sl lo cn lx ly pm pi)), (ra 27, aI E 200 bo), (ra 29, aZ E 30 cl), (ra 32, aI E 6 ru)]) [0, 1, 2, 3] rfl (by decide) rfl ?_
            refine g_if_ne_b (tgt := 98) dX7_weigh_92 rfl (fun c_12 => ?_) (fun c_12 => ?_)
            · refine g_bipush dX7_weigh_98 rfl ?_
              refine g_istore (lv1 := [(4, .int (iI (-4))), (3, .int (iI ((wt - ((ru 0) * (ru 2))) - (ru 3)))), (0, .ref m0), (1, .int (iI box)), (2, .int (iI wt))]) dX7_weigh_100 (by decide) rfl ?_
              refine g_iconst dX7_weigh_102 ?_
              refine g_istore (lv1 := [(5, .int (iI 0)), (4, .int (iI (-4))), (3, .int (iI ((wt - ((ru 0) * (ru 2))) - (ru 3)))), (0, .ref m0), (1, .int (iI box)), (2, .int (iI wt))]) dX7_weigh_103 (by decide) rfl ?_
              refine g_aload_n 3 dX7_weigh_105 rfl rfl ?_
              refine g_iload_n 4 dX7_weigh_106 rfl rfl ?_
              refine g_callV_i (n := 1) (As := [.int (iI box)]) (wr := [(ra 29, aZ E 30 cl), (ra 32, aI E 6 ru)]) (C := RX7) [] (c_X7_leastIn E m0 ra mm nf ti so ta go sl lo cn lx ly pm pi bo box (by omega) (by omega) (by omega)) [0, 1] [2, 3] 0 rfl rfl gX7_weigh_X7_leastIn rfl ⟨rfl, by decide +kernel⟩ ⟨by decide, by decide⟩ rfl rfl rfl rfl rfl (by decide) rfl (by decide) (by decide) (fun _ h => absurd h List.not_mem_nil) dX7_weigh_107 rfl (Nat.le_of_ble_eq_true rfl) ⟨by decide, by decide⟩ (fun r u p_13 => ?_)
              obtain ⟨l, fl, rfl, rfl⟩ := p_13
              refine g_perm (ws1 := [(m0, oo 7 (fMo ra mm nf ti so ta go sl lo cn lx ly pm pi)), (ra 27, aI E 200 bo), (ra 29, aZ E 30 cl), (ra 32, aI E 6 ru)]) [2, 3, 0, 1] rfl (by decide) rfl ?_
              have hl0 := isL_y fl (by assumption)
              refine g_iconst dX7_weigh_110 ?_
              refine g_iadd dX7_weigh_111 ?_
              refine g_istore (lv1 := [(6, .int (iI (l + 1))), (5, .int (iI 0)), (4, .int (iI (-4))), (3, .int (iI ((wt - ((ru 0) * (ru 2))) - (ru 3)))), (0, .ref m0), (1, .int (iI box)), (2, .int (iI wt))]) dX7_weigh_112 (by decide) rfl ?_
              refine g_lv (lv1 := [(0, .ref m0), (1, .int (iI box)), (2, .int (iI wt)), (3, .int (iI ((wt - ((ru 0) * (ru 2))) - (ru 3)))), (4, .int (iI (-4))), (5, .int (iI 0)), (6, .int (iI (l + 1)))]) [4, 5, 6, 3, 2, 1, 0] rfl ?_
              have L114 : ∀ (nn : Nat) (k : Int) (w : Int) (many : Int) (hk : l + 1 ≤ k ∧ k ≤ 200) (hw : lWe bo l k w many) (hmr : 0 ≤ many ∧ many ≤ k) (hkg : ∀ g, isG bo cn box g → (k ≤ g ∨ k = l + 1)) (hm : 200 - k < (nn : Int)), G X ({ frames := 2, cells := 0, slots := 0, locals := 42 } : Room) cX7_weigh 7 RX7 wsX7_weigh E [] 0 0 [(m0, oo 7 (fMo ra mm nf ti so ta go sl lo cn lx ly pm pi)), (ra 27, aI E 200 bo), (ra 29, aZ E 30 cl), (ra 32, aI E 6 ru)] [(0, .ref m0), (1, .int (iI box)), (2, .int (iI wt)), (3, .int (iI ((wt - ((ru 0) * (ru 2))) - (ru 3)))), (4, .int (iI w)), (5, .int (iI many)), (6, .int (iI k))] 114 [] := by
                intro nn
                induction nn with
                | zero => intro k w many hk hw hmr hkg hm; exfalso; omega
                | succ nn ih114 =>
                  intro k w many hk hw hmr hkg hm
                  refine g_iload 6 dX7_weigh_114 rfl ?_
                  refine g_aload_n 0 dX7_weigh_116 rfl rfl ?_
                  refine g_iload_n 1 dX7_weigh_117 rfl rfl ?_
                  refine g_callV_i (n := 1) (As := [.int (iI box)]) (wr := [(ra 29, aZ E 30 cl), (ra 32, aI E 6 ru)]) (C := RX7) [.int (iI k)] (c_X7_greatestIn E m0 ra mm nf ti so ta go sl lo cn lx ly pm pi bo box (by omega) (by omega) (by omega)) [0, 1] [2, 3] 0 rfl rfl gX7_weigh_X7_greatestIn rfl ⟨rfl, by decide +kernel⟩ ⟨by decide, by decide⟩ rfl rfl rfl rfl rfl (by decide) rfl (by decide) (by decide) (fun _ h => absurd h List.not_mem_nil) dX7_weigh_118 rfl (Nat.le_of_ble_eq_true rfl) ⟨by decide, by decide⟩ (fun r u p_14 => ?_)
                  obtain ⟨g, fg, rfl, rfl⟩ := p_14
                  refine g_perm (ws1 := [(m0, oo 7 (fMo ra mm nf ti so ta go sl lo cn lx ly pm pi)), (ra 27, aI E 200 bo), (ra 29, aZ E 30 cl), (ra 32, aI E 6 ru)]) [2, 3, 0, 1] rfl (by decide) rfl ?_
                  have hg0 := isG_y fg hl0
                  refine g_icmp_ge (tgt := 147) (by unfold R32; omega) (by unfold R32; omega) dX7_weigh_121 rfl (fun hkg2 => ?_) (fun hkg2 => ?_)
                  · refine g_iload 5 dX7_weigh_147 rfl ?_
                    refine g_iconst dX7_weigh_149 ?_
                    refine g_icmp_eq (tgt := 156) (by unfold R32; omega) (by unfold R32; omega) dX7_weigh_150 rfl (fun hmany => ?_) (fun hmany => ?_)
                    · have hone := lWe_1 (bo := bo) (cn := cn) (box := box) (l := l) (g := g) (k := k) (w := w) (by rw [← hmany]; exact hw) hl0.1 hl0.2.2 hg0.2.2 (by omega) hg0.2.1 hkg2 (hkg g fg) hg0.1
                      refine g_aload_n 0 dX7_weigh_156 rfl rfl ?_
                      refine g_get (C := RX7) (T := TX7) (N := 43) 0 27 (fun _ h => List.mem_cons_of_mem _ (List.mem_append_right _ h)) (List.mem_of_getElem? (i := 4) rfl) rfl rfl (by decide) rfl rfl dX7_weigh_157 ?_
                      refine g_iload 4 dX7_weigh_160 rfl ?_
                      refine g_iload_n 1 dX7_weigh_162 rfl rfl ?_
                      refine g_iast (ws1 := [(m0, oo 7 (fMo ra mm nf ti so ta go sl lo cn lx ly pm pi)), (ra 27, aI E 200 (up bo w box)), (ra 29, aZ E 30 cl), (ra 32, aI E 6 ru)]) 1 dX7_weigh_163 rfl rfl (by decide) (by omega) (by omega) ?_
                      refine g_aload_n 0 dX7_weigh_164 rfl rfl ?_
                      refine g_get (C := RX7) (T := TX7) (N := 43) 0 29 (fun _ h => List.mem_cons_of_mem _ (List.mem_append_right _ h)) (List.mem_of_getElem? (i := 3) rfl) rfl rfl (by decide) rfl rfl dX7_weigh_165 ?_
                      refine g_iload_n 1 dX7_weigh_168 rfl rfl ?_
                      refine g_iconst dX7_weigh_169 ?_
                      refine g_zast (ws1 := [(m0, oo 7 (fMo ra mm nf ti so ta go sl lo cn lx ly pm pi)), (ra 27, aI E 200 (up bo w box)), (ra 29, aZ E 30 (up cl box 1)), (ra 32, aI E 6 ru)]) 2 dX7_weigh_170 rfl (by omega) rfl (by decide) (by omega) (by omega) ?_
                      refine g_iload 4 dX7_weigh_171 rfl ?_
                      exact g_iret hRet dX7_weigh_173 rfl ⟨w, (up bo w box), (up un box (un box + 1)), (up cl box 1), (by unfold sp_weigh; rw [if_neg (by omega)]; rw [if_neg (by omega)]; unfold sLost; rw [if_neg (by omega)]; refine ⟨l, g, w, fl, fg, hone.1, ?_⟩; rw [if_pos (by omega)]; exact ⟨rfl, rfl, rfl, rfl⟩), rfl, rfl⟩
                    · refine g_bipush dX7_weigh_153 rfl ?_
                      exact g_iret hRet dX7_weigh_155 rfl ⟨(-2), bo, un, cl, (by unfold sp_weigh; rw [if_neg (by omega)]; rw [if_neg (by omega)]; unfold sLost; rw [if_neg (by omega)]; refine ⟨l, g, -4, fl, fg, lWe_0 hw hmany hl0.1 hl0.2.2 hg0.2.2 (by omega) hg0.2.1 hkg2 (hkg g fg) hg0.1, ?_⟩; rw [if_neg (by omega)]; exact ⟨rfl, rfl, rfl, rfl⟩), rfl, rfl⟩
                  · refine g_aload_n 0 dX7_weigh_124 rfl rfl ?_
                    refine g_get (C := RX7) (T := TX7) (N := 43) 0 27 (fun _ h => List.mem_cons_of_mem _ (List.mem_append_right _ h)) (List.mem_of_getElem? (i := 4) rfl) rfl rfl (by decide) rfl rfl dX7_weigh_125 ?_
                    refine g_iload 6 dX7_weigh_128 rfl ?_
                    refine g_iald 1 dX7_weigh_130 rfl (by decide) (by omega) (by omega) ?_
                    have q_15 := hbo k
                    refine g_if_ge (tgt := 141) (by unfold R32; omega) dX7_weigh_131 rfl (fun hq => ?_) (fun hq => ?_)
                    · refine g_iinc (lv1 := [(6, .int (iI (k + 1))), (0, .ref m0), (1, .int (iI box)), (2, .int (iI wt)), (3, .int (iI ((wt - ((ru 0) * (ru 2))) - (ru 3)))), (4, .int (iI w)), (5, .int (iI many))]) 6 dX7_weigh_141 rfl (by decide) rfl ?_
                      refine g_goto (tgt := 114) dX7_weigh_144 rfl ?_
                      refine g_lv (lv1 := [(0, .ref m0), (1, .int (iI box)), (2, .int (iI wt)), (3, .int (iI ((wt - ((ru 0) * (ru 2))) - (ru 3)))), (4, .int (iI w)), (5, .int (iI many)), (6, .int (iI (k + 1)))]) [1, 2, 3, 4, 5, 6, 0] rfl ?_
                      exact ih114 (k + 1) w many (by omega) (by exact lWe_n hw (by omega)) (by omega) (by intro g2 h2; have e := isG_u h2 fg; left; omega) (by omega)
                    · refine g_iload 6 dX7_weigh_134 rfl ?_
                      refine g_istore (lv1 := [(4, .int (iI k)), (0, .ref m0), (1, .int (iI box)), (2, .int (iI wt)), (3, .int (iI ((wt - ((ru 0) * (ru 2))) - (ru 3)))), (5, .int (iI many)), (6, .int (iI k))]) dX7_weigh_136 (by decide) rfl ?_
                      refine g_iinc (lv1 := [(5, .int (iI (many + 1))), (4, .int (iI k)), (0, .ref m0), (1, .int (iI box)), (2, .int (iI wt)), (3, .int (iI ((wt - ((ru 0) * (ru 2))) - (ru 3)))), (6, .int (iI k))]) 5 dX7_weigh_138 rfl (by decide) rfl ?_
                      refine g_iinc (lv1 := [(6, .int (iI (k + 1))), (5, .int (iI (many + 1))), (4, .int (iI k)), (0, .ref m0), (1, .int (iI box)), (2, .int (iI wt)), (3, .int (iI ((wt - ((ru 0) * (ru 2))) - (ru 3))))]) 6 dX7_weigh_141 rfl (by decide) rfl ?_
                      refine g_goto (tgt := 114) dX7_weigh_144 rfl ?_
                      refine g_lv (lv1 := [(0, .ref m0), (1, .int (iI box)), (2, .int (iI wt)), (3, .int (iI ((wt - ((ru 0) * (ru 2))) - (ru 3)))), (4, .int (iI k)), (5, .int (iI (many + 1))), (6, .int (iI (k + 1)))]) [3, 4, 5, 6, 2, 1, 0] rfl ?_
                      exact ih114 (k + 1) k (many + 1) (by omega) (by exact lWe_y hw (by omega) (by omega)) (by omega) (by intro g2 h2; have e := isG_u h2 fg; left; omega) (by omega)
              exact L114 _ (l + 1) (-4) 0 (by omega) (by left; refine ⟨rfl, fun j j0 j1 => ?_⟩; omega) (by omega) (by intro g _; right; rfl) (lt_nn _)
            · refine g_bipush dX7_weigh_95 rfl ?_
              exact g_iret hRet dX7_weigh_97 rfl ⟨(-2), bo, un, cl, (by unfold sp_weigh; rw [if_neg (by omega)]; by_cases hoff : wt - (ru 0 * ru 2 + ru 3) < -ru 4 ∨ ru 4 < wt - (ru 0 * ru 2 + ru 3); (rw [if_pos hoff]; exact ⟨rfl, rfl, rfl, rfl⟩); rw [if_neg hoff]; unfold sLost; by_cases hc : cl box ≠ 0 ∨ un box ≠ ru 0 - 1; (rw [if_pos hc]; exact ⟨rfl, rfl, rfl, rfl⟩); rw [if_neg hc]; have hz : ctI bo cn box = 0 := (by have hu2 := hun box (by omega) (by omega); omega); refine ⟨-4, -4, -4, Or.inl ⟨rfl, ctI_0 hz⟩, Or.inl ⟨rfl, ctI_0 hz⟩, Or.inl ⟨rfl, ?_⟩, ?_⟩; (rintro ⟨j, j1, j2, j3, j4, -⟩; omega); rw [if_neg (by omega)]; exact ⟨rfl, rfl, rfl, rfl⟩), rfl, rfl⟩
        · refine g_bipush dX7_weigh_95 rfl ?_
          exact g_iret hRet dX7_weigh_97 rfl ⟨(-2), bo, un, cl, (by unfold sp_weigh; rw [if_neg (by omega)]; by_cases hoff : wt - (ru 0 * ru 2 + ru 3) < -ru 4 ∨ ru 4 < wt - (ru 0 * ru 2 + ru 3); (rw [if_pos hoff]; exact ⟨rfl, rfl, rfl, rfl⟩); rw [if_neg hoff]; unfold sLost; by_cases hc : cl box ≠ 0 ∨ un box ≠ ru 0 - 1; (rw [if_pos hc]; exact ⟨rfl, rfl, rfl, rfl⟩); rw [if_neg hc]; have hz : ctI bo cn box = 0 := (by have hu2 := hun box (by omega) (by omega); omega); refine ⟨-4, -4, -4, Or.inl ⟨rfl, ctI_0 hz⟩, Or.inl ⟨rfl, ctI_0 hz⟩, Or.inl ⟨rfl, ?_⟩, ?_⟩; (rintro ⟨j, j1, j2, j3, j4, -⟩; omega); rw [if_neg (by omega)]; exact ⟨rfl, rfl, rfl, rfl⟩), rfl, rfl⟩
      · refine g_bipush dX7_weigh_95 rfl ?_
        exact g_iret hRet dX7_weigh_97 rfl ⟨(-2), bo, un, cl, (by unfold sp_weigh; rw [if_neg (by omega)]; by_cases hoff : wt - (ru 0 * ru 2 + ru 3) < -ru 4 ∨ ru 4 < wt - (ru 0 * ru 2 + ru 3); (rw [if_pos hoff]; exact ⟨rfl, rfl, rfl, rfl⟩); rw [if_neg hoff]; unfold sLost; by_cases hc : cl box ≠ 0 ∨ un box ≠ ru 0 - 1; (rw [if_pos hc]; exact ⟨rfl, rfl, rfl, rfl⟩); rw [if_neg hc]; have hz : ctI bo cn box = 0 := (by have hu2 := hun box (by omega) (by omega); omega); refine ⟨-4, -4, -4, Or.inl ⟨rfl, ctI_0 hz⟩, Or.inl ⟨rfl, ctI_0 hz⟩, Or.inl ⟨rfl, ?_⟩, ?_⟩; (rintro ⟨j, j1, j2, j3, j4, -⟩; omega); rw [if_neg (by omega)]; exact ⟨rfl, rfl, rfl, rfl⟩), rfl, rfl⟩
    · refine g_iconst dX7_weigh_17 ?_
      exact g_iret hRet dX7_weigh_18 rfl ⟨(-1), bo, un, cl, (by unfold sp_weigh; rw [if_pos (by omega)]; exact ⟨rfl, rfl, rfl, rfl⟩), rfl, rfl⟩
  · refine g_iconst dX7_weigh_17 ?_
    exact g_iret hRet dX7_weigh_18 rfl ⟨(-1), bo, un, cl, (by unfold sp_weigh; rw [if_pos (by omega)]; exact ⟨rfl, rfl, rfl, rfl⟩), rfl, rfl⟩

end REF1B
