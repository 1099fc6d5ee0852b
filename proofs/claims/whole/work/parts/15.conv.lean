section CONV
def ug (g : Int → Int → Int) (k : Int) (c : Int → Int) : Int → Int → Int := fun j => if j = k then c else g j
def kOk (t : Int) (c : Int → Int) : Prop := mOk c ∧ c 3 ≤ 4 ∧ c 7 ≤ t ∧ c 8 ≤ 10000 ∧ (c 1 = 1 ∨ c 3 = 0) ∧ (c 1 = 0 ∨ c 2 = 0)
def cau (g : Int → Int → Int) : Nat → Int
  | 0 => 7
  | k + 1 => if g (k : Int) 9 = 4 then cau g k else if g (k : Int) 9 = 3 then 6 else (k : Int)
def sLay (M : Int) (g : Int → Int → Int) (sl : Int) (ld : Int → Int) (sl' : Int) (ld' : Int → Int) : Prop :=
  if g (M - 1) 9 = 3 then sl' = sl ∧ ld' = ld else sl' = sl + 1 ∧ ld' = up ld (cau g M.toNat) (ld (cau g M.toNat) + 1)

set_option maxHeartbeats 4000000 in
set_option maxRecDepth 100000 in
theorem c_X1_layOnCause (E : Ev) (v : Nat) (ma : Nat) (fo : Nat) (la : Nat) (M : Int) (ti : Int) (so : Int) (ta : Int) (go : Int) (sl : Int) (mq : Int → Option Nat) (ad : Int → Nat) (sd : Int → Nat) (g : Int → Int → Int) (ld : Int → Int) (hM : 2 ≤ M ∧ M ≤ 6) (hti : 0 ≤ ti ∧ ti ≤ 10000) (hso : 0 ≤ so ∧ so ≤ 100000) (hgo : 0 ≤ go ∧ go ≤ 20000) (hmq : ∀ k, 0 ≤ k → k < 6 → mq k = some (ad k)) (hgk : ∀ j, 0 ≤ j → j < 6 → mOk (g j)) : MV yX1_layOnCause wsX1_layOnCause ({ frames := 2, cells := 0, slots := 0, locals := 41 } : Room) E [] 0 0 [.ref v] [(v, oo 1 [.ref ma, .int (iI M), .ref fo, .ref la, .int (iI ti), .int (iI so), .int (iI ta), .int (iI go), .int (iI sl)]), (ma, aM E 6 mq), (la, aI E 8 ld), (ad 0, oo 3 (fMa 0 .null (sd 0) (g 0))), (ad 1, oo 3 (fMa 1 (.ref (ad 0)) (sd 1) (g 1))), (ad 2, oo 3 (fMa 2 (.ref (ad 1)) (sd 2) (g 2))), (ad 3, oo 3 (fMa 3 (.ref (ad 2)) (sd 3) (g 3))), (ad 4, oo 3 (fMa 4 (.ref (ad 3)) (sd 4) (g 4))), (ad 5, oo 3 (fMa 5 (.ref (ad 4)) (sd 5) (g 5)))] (fun u => ∃ (sl' : Int), ∃ (ld' : Int → Int), sLay M g sl ld sl' ld' ∧ u = [(v, oo 1 [.ref ma, .int (iI M), .ref fo, .ref la, .int (iI ti), .int (iI so), .int (iI ta), .int (iI go), .int (iI sl')]), (ma, aM E 6 mq), (la, aI E 8 ld'), (ad 0, oo 3 (fMa 0 .null (sd 0) (g 0))), (ad 1, oo 3 (fMa 1 (.ref (ad 0)) (sd 1) (g 1))), (ad 2, oo 3 (fMa 2 (.ref (ad 1)) (sd 2) (g 2))), (ad 3, oo 3 (fMa 3 (.ref (ad 2)) (sd 3) (g 3))), (ad 4, oo 3 (fMa 4 (.ref (ad 3)) (sd 4) (g 4))), (ad 5, oo 3 (fMa 5 (.ref (ad 4)) (sd 5) (g 5)))]) := by
  refine MV.of (cc := cX1_layOnCause) (maxL := 2) (own := RX1) (by decide) rfl rfl rfl (Nat.le_of_ble_eq_true rfl) [(0, .ref v)] rfl ?_
  intro X hin2 hRet
  have p0 : -4 ≤ g 0 9 ∧ g 0 9 ≤ 4 := by have q9 := hgk 0 (by omega) (by omega); unfold mOk at q9; omega
  have p1 : -4 ≤ g 1 9 ∧ g 1 9 ≤ 4 := by have q9 := hgk 1 (by omega) (by omega); unfold mOk at q9; omega
  have p2 : -4 ≤ g 2 9 ∧ g 2 9 ≤ 4 := by have q9 := hgk 2 (by omega) (by omega); unfold mOk at q9; omega
  have p3 : -4 ≤ g 3 9 ∧ g 3 9 ≤ 4 := by have q9 := hgk 3 (by omega) (by omega); unfold mOk at q9; omega
  have p4 : -4 ≤ g 4 9 ∧ g 4 9 ≤ 4 := by have q9 := hgk 4 (by omega) (by omega); unfold mOk at q9; omega
  have p5 : -4 ≤ g 5 9 ∧ g 5 9 ≤ 4 := by have q9 := hgk 5 (by omega) (by omega); unfold mOk at q9; omega
  have K28_N : ∀  (hcau : cau g M.toNat = cau g 0) (hst : ¬ g (M - 1) 9 = 3), G X ({ frames := 2, cells := 0, slots := 0, locals := 41 } : Room) cX1_layOnCause 2 RX1 wsX1_layOnCause E [] 0 0 [(v, oo 1 [.ref ma, .int (iI M), .ref fo, .ref la, .int (iI ti), .int (iI so), .int (iI ta), .int (iI go), .int (iI (sl + 1))]), (ma, aM E 6 mq), (la, aI E 8 ld), (ad 0, oo 3 (fMa 0 .null (sd 0) (g 0))), (ad 1, oo 3 (fMa 1 (.ref (ad 0)) (sd 1) (g 1))), (ad 2, oo 3 (fMa 2 (.ref (ad 1)) (sd 2) (g 2))), (ad 3, oo 3 (fMa 3 (.ref (ad 2)) (sd 3) (g 3))), (ad 4, oo 3 (fMa 4 (.ref (ad 3)) (sd 4) (g 4))), (ad 5, oo 3 (fMa 5 (.ref (ad 4)) (sd 5) (g 5)))] [(0, .ref v), (1, .null)] 28 [] := by
    intro  hcau hst
    refine g_aload_nN 1 dX1_layOnCause_28 rfl rfl ?_
    refine g_ifnullN (tgt := 48) dX1_layOnCause_29 rfl ?_
    refine g_aload_nN 1 dX1_layOnCause_48 rfl rfl ?_
    refine g_ifnonnullN dX1_layOnCause_49 ?_
    refine g_aload_n 0 dX1_layOnCause_52 rfl rfl ?_
    refine g_get (C := RX1) (T := TX1) (N := 9) 0 3 (fun _ h => List.mem_cons_of_mem _ (List.mem_append_right _ h)) (List.mem_of_getElem? (i := 4) rfl) rfl rfl (by decide) rfl rfl dX1_layOnCause_53 ?_
    refine g_bipush dX1_layOnCause_56 rfl ?_
    refine g_dup2 dX1_layOnCause_58 rfl rfl ?_
    refine g_iald 2 dX1_layOnCause_59 rfl (by decide) (by omega) (by omega) ?_
    refine g_iconst dX1_layOnCause_60 ?_
    refine g_iadd dX1_layOnCause_61 ?_
    refine g_iast (ws1 := [(v, oo 1 [.ref ma, .int (iI M), .ref fo, .ref la, .int (iI ti), .int (iI so), .int (iI ta), .int (iI go), .int (iI (sl + 1))]), (ma, aM E 6 mq), (la, aI E 8 (up ld 7 ((ld 7) + 1))), (ad 0, oo 3 (fMa 0 .null (sd 0) (g 0))), (ad 1, oo 3 (fMa 1 (.ref (ad 0)) (sd 1) (g 1))), (ad 2, oo 3 (fMa 2 (.ref (ad 1)) (sd 2) (g 2))), (ad 3, oo 3 (fMa 3 (.ref (ad 2)) (sd 3) (g 3))), (ad 4, oo 3 (fMa 4 (.ref (ad 3)) (sd 4) (g 4))), (ad 5, oo 3 (fMa 5 (.ref (ad 4)) (sd 5) (g 5)))]) 2 dX1_layOnCause_62 rfl rfl (by decide) (by omega) (by omega) ?_
    refine g_goto (tgt := 113) dX1_layOnCause_63 rfl ?_
    exact g_vret hRet dX1_layOnCause_113 ⟨(sl + 1), (up ld 7 ((ld 7) + 1)), (by unfold sLay; rw [if_neg hst]; refine ⟨rfl, ?_⟩; rw [hcau]; first | rfl | (show _ = up ld (if _ then _ else _) (ld (if _ then _ else _) + 1); first | (rw [if_neg (by assumption), if_pos (by assumption)]; done) | (rw [if_neg (by assumption), if_neg (by assumption)]; rfl))), rfl⟩
  have K28_0 : ∀  (hcau : cau g M.toNat = cau g 1) (hst : ¬ g (M - 1) 9 = 3), G X ({ frames := 2, cells := 0, slots := 0, locals := 41 } : Room) cX1_layOnCause 2 RX1 wsX1_layOnCause E [] 0 0 [(v, oo 1 [.ref ma, .int (iI M), .ref fo, .ref la, .int (iI ti), .int (iI so), .int (iI ta), .int (iI go), .int (iI (sl + 1))]), (ma, aM E 6 mq), (la, aI E 8 ld), (ad 0, oo 3 (fMa 0 .null (sd 0) (g 0))), (ad 1, oo 3 (fMa 1 (.ref (ad 0)) (sd 1) (g 1))), (ad 2, oo 3 (fMa 2 (.ref (ad 1)) (sd 2) (g 2))), (ad 3, oo 3 (fMa 3 (.ref (ad 2)) (sd 3) (g 3))), (ad 4, oo 3 (fMa 4 (.ref (ad 3)) (sd 4) (g 4))), (ad 5, oo 3 (fMa 5 (.ref (ad 4)) (sd 5) (g 5)))] [(0, .ref v), (1, .ref (ad 0))] 28 [] := by
    intro  hcau hst
    refine g_aload_n 1 dX1_layOnCause_28 rfl rfl ?_
    refine g_ifnull dX1_layOnCause_29 ?_
    refine g_aload_n 1 dX1_layOnCause_32 rfl rfl ?_
    refine g_get (v := .int (iI ((g 0) 9))) (C := RX3) (T := TX3) (N := 14) 3 12 (fun _ h => List.mem_cons_of_mem _ (List.mem_append_left _ (List.mem_append_right _ h))) (List.mem_of_getElem? (i := 1) rfl) rfl rfl (by decide) rfl rfl dX1_layOnCause_33 ?_
    refine g_iconst dX1_layOnCause_36 ?_
    refine g_icmp_ne (tgt := 48) (by unfold R32; omega) (by unfold R32; omega) dX1_layOnCause_37 rfl (fun c_1 => ?_) (fun c_1 => ?_)
    · refine g_aload_n 1 dX1_layOnCause_40 rfl rfl ?_
      refine g_get (v := .null) (C := RX3) (T := TX3) (N := 14) 3 1 (fun _ h => List.mem_cons_of_mem _ (List.mem_append_left _ (List.mem_append_right _ h))) (List.mem_of_getElem? (i := 3) rfl) rfl rfl (by decide) rfl rfl dX1_layOnCause_41 ?_
      refine g_astore_nN (lv1 := [(1, .null), (0, .ref v)]) dX1_layOnCause_44 rfl (by decide) rfl ?_
      refine g_goto (tgt := 28) dX1_layOnCause_45 rfl ?_
      refine g_lv (lv1 := [(0, .ref v), (1, .null)]) [1, 0] rfl ?_
      exact K28_N  (by rw [hcau]; show (if _ then _ else _) = _; rw [if_pos (by assumption)]) (by exact hst)
    · refine g_aload_n 1 dX1_layOnCause_48 rfl rfl ?_
      refine g_ifnonnull (tgt := 66) dX1_layOnCause_49 rfl ?_
      refine g_aload_n 1 dX1_layOnCause_66 rfl rfl ?_
      refine g_get (v := .int (iI ((g 0) 9))) (C := RX3) (T := TX3) (N := 14) 3 12 (fun _ h => List.mem_cons_of_mem _ (List.mem_append_left _ (List.mem_append_right _ h))) (List.mem_of_getElem? (i := 1) rfl) rfl rfl (by decide) rfl rfl dX1_layOnCause_67 ?_
      refine g_iconst dX1_layOnCause_70 ?_
      refine g_icmp_ne (tgt := 88) (by unfold R32; omega) (by unfold R32; omega) dX1_layOnCause_71 rfl (fun c_2 => ?_) (fun c_2 => ?_)
      · refine g_aload_n 0 dX1_layOnCause_74 rfl rfl ?_
        refine g_get (C := RX1) (T := TX1) (N := 9) 0 3 (fun _ h => List.mem_cons_of_mem _ (List.mem_append_right _ h)) (List.mem_of_getElem? (i := 4) rfl) rfl rfl (by decide) rfl rfl dX1_layOnCause_75 ?_
        refine g_bipush dX1_layOnCause_78 rfl ?_
        refine g_dup2 dX1_layOnCause_80 rfl rfl ?_
        refine g_iald 2 dX1_layOnCause_81 rfl (by decide) (by omega) (by omega) ?_
        refine g_iconst dX1_layOnCause_82 ?_
        refine g_iadd dX1_layOnCause_83 ?_
        refine g_iast (ws1 := [(v, oo 1 [.ref ma, .int (iI M), .ref fo, .ref la, .int (iI ti), .int (iI so), .int (iI ta), .int (iI go), .int (iI (sl + 1))]), (ma, aM E 6 mq), (la, aI E 8 (up ld 6 ((ld 6) + 1))), (ad 0, oo 3 (fMa 0 .null (sd 0) (g 0))), (ad 1, oo 3 (fMa 1 (.ref (ad 0)) (sd 1) (g 1))), (ad 2, oo 3 (fMa 2 (.ref (ad 1)) (sd 2) (g 2))), (ad 3, oo 3 (fMa 3 (.ref (ad 2)) (sd 3) (g 3))), (ad 4, oo 3 (fMa 4 (.ref (ad 3)) (sd 4) (g 4))), (ad 5, oo 3 (fMa 5 (.ref (ad 4)) (sd 5) (g 5)))]) 2 dX1_layOnCause_84 rfl rfl (by decide) (by omega) (by omega) ?_
        refine g_goto (tgt := 113) dX1_layOnCause_85 rfl ?_
        exact g_vret hRet dX1_layOnCause_113 ⟨(sl + 1), (up ld 6 ((ld 6) + 1)), (by unfold sLay; rw [if_neg hst]; refine ⟨rfl, ?_⟩; rw [hcau]; first | rfl | (show _ = up ld (if _ then _ else _) (ld (if _ then _ else _) + 1); first | (rw [if_neg (by assumption), if_pos (by assumption)]; done) | (rw [if_neg (by assumption), if_neg (by assumption)]; rfl))), rfl⟩
      · refine g_aload_n 1 dX1_layOnCause_88 rfl rfl ?_
        refine g_get (v := .int (iI 0)) (C := RX3) (T := TX3) (N := 14) 3 0 (fun _ h => List.mem_cons_of_mem _ (List.mem_append_left _ (List.mem_append_right _ h))) (List.mem_of_getElem? (i := 5) rfl) rfl rfl (by decide) rfl rfl dX1_layOnCause_89 ?_
        refine g_iconst dX1_layOnCause_92 ?_
        refine g_iconst dX1_layOnCause_93 ?_
        refine g_callN_i (n := 3) (As := [.int (iI 0), .int (iI 0), .int (iI 5)]) (wr := [(v, oo 1 [.ref ma, .int (iI M), .ref fo, .ref la, .int (iI ti), .int (iI so), .int (iI ta), .int (iI go), .int (iI (sl + 1))]), (ma, aM E 6 mq), (la, aI E 8 ld), (ad 0, oo 3 (fMa 0 .null (sd 0) (g 0))), (ad 1, oo 3 (fMa 1 (.ref (ad 0)) (sd 1) (g 1))), (ad 2, oo 3 (fMa 2 (.ref (ad 1)) (sd 2) (g 2))), (ad 3, oo 3 (fMa 3 (.ref (ad 2)) (sd 3) (g 3))), (ad 4, oo 3 (fMa 4 (.ref (ad 3)) (sd 4) (g 4))), (ad 5, oo 3 (fMa 5 (.ref (ad 4)) (sd 5) (g 5)))]) [] (c_X6_within E 0 0 5 (by omega) (by omega) (by omega)) [] [0, 1, 2, 3, 4, 5, 6, 7, 8] gX1_layOnCause_X6_within_n130 (fun _ h => h.2.2.2.2.1) (List.mem_of_getElem? (i := 18) rfl) (List.mem_of_getElem? (i := 17) rfl) rfl (by decide +kernel) ⟨by decide, by decide⟩ rfl rfl rfl rfl rfl (by decide) rfl (by decide) (by decide) (fun _ h => absurd h List.not_mem_nil) dX1_layOnCause_94 rfl (Nat.le_of_ble_eq_true rfl) ⟨by decide, by decide⟩ (fun r u p_3 => ?_)
        obtain ⟨rfl, rfl⟩ := p_3
        refine g_perm (ws1 := [(v, oo 1 [.ref ma, .int (iI M), .ref fo, .ref la, .int (iI ti), .int (iI so), .int (iI ta), .int (iI go), .int (iI (sl + 1))]), (ma, aM E 6 mq), (la, aI E 8 ld), (ad 0, oo 3 (fMa 0 .null (sd 0) (g 0))), (ad 1, oo 3 (fMa 1 (.ref (ad 0)) (sd 1) (g 1))), (ad 2, oo 3 (fMa 2 (.ref (ad 1)) (sd 2) (g 2))), (ad 3, oo 3 (fMa 3 (.ref (ad 2)) (sd 3) (g 3))), (ad 4, oo 3 (fMa 4 (.ref (ad 3)) (sd 4) (g 4))), (ad 5, oo 3 (fMa 5 (.ref (ad 4)) (sd 5) (g 5)))]) [0, 1, 2, 3, 4, 5, 6, 7, 8] rfl (by decide) rfl ?_
        refine g_if_eq_b (tgt := 113) dX1_layOnCause_97 rfl (fun _ => ?_) (fun q => absurd (by decide) q)
        refine g_aload_n 0 dX1_layOnCause_100 rfl rfl ?_
        refine g_get (C := RX1) (T := TX1) (N := 9) 0 3 (fun _ h => List.mem_cons_of_mem _ (List.mem_append_right _ h)) (List.mem_of_getElem? (i := 4) rfl) rfl rfl (by decide) rfl rfl dX1_layOnCause_101 ?_
        refine g_aload_n 1 dX1_layOnCause_104 rfl rfl ?_
        refine g_get (v := .int (iI 0)) (C := RX3) (T := TX3) (N := 14) 3 0 (fun _ h => List.mem_cons_of_mem _ (List.mem_append_left _ (List.mem_append_right _ h))) (List.mem_of_getElem? (i := 5) rfl) rfl rfl (by decide) rfl rfl dX1_layOnCause_105 ?_
        refine g_dup2 dX1_layOnCause_108 rfl rfl ?_
        refine g_iald 2 dX1_layOnCause_109 rfl (by decide) (by omega) (by omega) ?_
        refine g_iconst dX1_layOnCause_110 ?_
        refine g_iadd dX1_layOnCause_111 ?_
        refine g_iast (ws1 := [(v, oo 1 [.ref ma, .int (iI M), .ref fo, .ref la, .int (iI ti), .int (iI so), .int (iI ta), .int (iI go), .int (iI (sl + 1))]), (ma, aM E 6 mq), (la, aI E 8 (up ld 0 ((ld 0) + 1))), (ad 0, oo 3 (fMa 0 .null (sd 0) (g 0))), (ad 1, oo 3 (fMa 1 (.ref (ad 0)) (sd 1) (g 1))), (ad 2, oo 3 (fMa 2 (.ref (ad 1)) (sd 2) (g 2))), (ad 3, oo 3 (fMa 3 (.ref (ad 2)) (sd 3) (g 3))), (ad 4, oo 3 (fMa 4 (.ref (ad 3)) (sd 4) (g 4))), (ad 5, oo 3 (fMa 5 (.ref (ad 4)) (sd 5) (g 5)))]) 2 dX1_layOnCause_112 rfl rfl (by decide) (by omega) (by omega) ?_
        exact g_vret hRet dX1_layOnCause_113 ⟨(sl + 1), (up ld 0 ((ld 0) + 1)), (by unfold sLay; rw [if_neg hst]; refine ⟨rfl, ?_⟩; rw [hcau]; first | rfl | (show _ = up ld (if _ then _ else _) (ld (if _ then _ else _) + 1); first | (rw [if_neg (by assumption), if_pos (by assumption)]; done) | (rw [if_neg (by assumption), if_neg (by assumption)]; rfl))), rfl⟩
  have K28_1 : ∀  (hcau : cau g M.toNat = cau g 2) (hst : ¬ g (M - 1) 9 = 3), G X ({ frames := 2, cells := 0, slots := 0, locals := 41 } : Room) cX1_layOnCause 2 RX1 wsX1_layOnCause E [] 0 0 [(v, oo 1 [.ref ma, .int (iI M), .ref fo, .ref la, .int (iI ti), .int (iI so), .int (iI ta), .int (iI go), .int (iI (sl + 1))]), (ma, aM E 6 mq), (la, aI E 8 ld), (ad 0, oo 3 (fMa 0 .null (sd 0) (g 0))), (ad 1, oo 3 (fMa 1 (.ref (ad 0)) (sd 1) (g 1))), (ad 2, oo 3 (fMa 2 (.ref (ad 1)) (sd 2) (g 2))), (ad 3, oo 3 (fMa 3 (.ref (ad 2)) (sd 3) (g 3))), (ad 4, oo 3 (fMa 4 (.ref (ad 3)) (sd 4) (g 4))), (ad 5, oo 3 (fMa 5 (.ref (ad 4)) (sd 5) (g 5)))] [(0, .ref v), (1, .ref (ad 1))] 28 [] := by
    intro  hcau hst
    refine g_aload_n 1 dX1_layOnCause_28 rfl rfl ?_
    refine g_ifnull dX1_layOnCause_29 ?_
    refine g_aload_n 1 dX1_layOnCause_32 rfl rfl ?_
    refine g_get (v := .int (iI ((g 1) 9))) (C := RX3) (T := TX3) (N := 14) 4 12 (fun _ h => List.mem_cons_of_mem _ (List.mem_append_left _ (List.mem_append_right _ h))) (List.mem_of_getElem? (i := 1) rfl) rfl rfl (by decide) rfl rfl dX1_layOnCause_33 ?_
    refine g_iconst dX1_layOnCause_36 ?_
    refine g_icmp_ne (tgt := 48) (by unfold R32; omega) (by unfold R32; omega) dX1_layOnCause_37 rfl (fun c_5 => ?_) (fun c_5 => ?_)
    · refine g_aload_n 1 dX1_layOnCause_40 rfl rfl ?_
      refine g_get (v := .ref (ad 0)) (C := RX3) (T := TX3) (N := 14) 4 1 (fun _ h => List.mem_cons_of_mem _ (List.mem_append_left _ (List.mem_append_right _ h))) (List.mem_of_getElem? (i := 3) rfl) rfl rfl (by decide) rfl rfl dX1_layOnCause_41 ?_
      refine g_astore_n (lv1 := [(1, .ref (ad 0)), (0, .ref v)]) dX1_layOnCause_44 rfl (by decide) rfl ?_
      refine g_goto (tgt := 28) dX1_layOnCause_45 rfl ?_
      refine g_lv (lv1 := [(0, .ref v), (1, .ref (ad 0))]) [1, 0] rfl ?_
      exact K28_0  (by rw [hcau]; show (if _ then _ else _) = _; rw [if_pos (by assumption)]) (by exact hst)
    · refine g_aload_n 1 dX1_layOnCause_48 rfl rfl ?_
      refine g_ifnonnull (tgt := 66) dX1_layOnCause_49 rfl ?_
      refine g_aload_n 1 dX1_layOnCause_66 rfl rfl ?_
      refine g_get (v := .int (iI ((g 1) 9))) (C := RX3) (T := TX3) (N := 14) 4 12 (fun _ h => List.mem_cons_of_mem _ (List.mem_append_left _ (List.mem_append_right _ h))) (List.mem_of_getElem? (i := 1) rfl) rfl rfl (by decide) rfl rfl dX1_layOnCause_67 ?_
      refine g_iconst dX1_layOnCause_70 ?_
      refine g_icmp_ne (tgt := 88) (by unfold R32; omega) (by unfold R32; omega) dX1_layOnCause_71 rfl (fun c_6 => ?_) (fun c_6 => ?_)
      · refine g_aload_n 0 dX1_layOnCause_74 rfl rfl ?_
        refine g_get (C := RX1) (T := TX1) (N := 9) 0 3 (fun _ h => List.mem_cons_of_mem _ (List.mem_append_right _ h)) (List.mem_of_getElem? (i := 4) rfl) rfl rfl (by decide) rfl rfl dX1_layOnCause_75 ?_
        refine g_bipush dX1_layOnCause_78 rfl ?_
        refine g_dup2 dX1_layOnCause_80 rfl rfl ?_
        refine g_iald 2 dX1_layOnCause_81 rfl (by decide) (by omega) (by omega) ?_
        refine g_iconst dX1_layOnCause_82 ?_
        refine g_iadd dX1_layOnCause_83 ?_
        refine g_iast (ws1 := [(v, oo 1 [.ref ma, .int (iI M), .ref fo, .ref la, .int (iI ti), .int (iI so), .int (iI ta), .int (iI go), .int (iI (sl + 1))]), (ma, aM E 6 mq), (la, aI E 8 (up ld 6 ((ld 6) + 1))), (ad 0, oo 3 (fMa 0 .null (sd 0) (g 0))), (ad 1, oo 3 (fMa 1 (.ref (ad 0)) (sd 1) (g 1))), (ad 2, oo 3 (fMa 2 (.ref (ad 1)) (sd 2) (g 2))), (ad 3, oo 3 (fMa 3 (.ref (ad 2)) (sd 3) (g 3))), (ad 4, oo 3 (fMa 4 (.ref (ad 3)) (sd 4) (g 4))), (ad 5, oo 3 (fMa 5 (.ref (ad 4)) (sd 5) (g 5)))]) 2 dX1_layOnCause_84 rfl rfl (by decide) (by omega) (by omega) ?_
        refine g_goto (tgt := 113) dX1_layOnCause_85 rfl ?_
        exact g_vret hRet dX1_layOnCause_113 ⟨(sl + 1), (up ld 6 ((ld 6) + 1)), (by unfold sLay; rw [if_neg hst]; refine ⟨rfl, ?_⟩; rw [hcau]; first | rfl | (show _ = up ld (if _ then _ else _) (ld (if _ then _ else _) + 1); first | (rw [if_neg (by assumption), if_pos (by assumption)]; done) | (rw [if_neg (by assumption), if_neg (by assumption)]; rfl))), rfl⟩
      · refine g_aload_n 1 dX1_layOnCause_88 rfl rfl ?_
        refine g_get (v := .int (iI 1)) (C := RX3) (T := TX3) (N := 14) 4 0 (fun _ h => List.mem_cons_of_mem _ (List.mem_append_left _ (List.mem_append_right _ h))) (List.mem_of_getElem? (i := 5) rfl) rfl rfl (by decide) rfl rfl dX1_layOnCause_89 ?_
        refine g_iconst dX1_layOnCause_92 ?_
        refine g_iconst dX1_layOnCause_93 ?_
        refine g_callN_i (n := 3) (As := [.int (iI 1), .int (iI 0), .int (iI 5)]) (wr := [(v, oo 1 [.ref ma, .int (iI M), .ref fo, .ref la, .int (iI ti), .int (iI so), .int (iI ta), .int (iI go), .int (iI (sl + 1))]), (ma, aM E 6 mq), (la, aI E 8 ld), (ad 0, oo 3 (fMa 0 .null (sd 0) (g 0))), (ad 1, oo 3 (fMa 1 (.ref (ad 0)) (sd 1) (g 1))), (ad 2, oo 3 (fMa 2 (.ref (ad 1)) (sd 2) (g 2))), (ad 3, oo 3 (fMa 3 (.ref (ad 2)) (sd 3) (g 3))), (ad 4, oo 3 (fMa 4 (.ref (ad 3)) (sd 4) (g 4))), (ad 5, oo 3 (fMa 5 (.ref (ad 4)) (sd 5) (g 5)))]) [] (c_X6_within E 1 0 5 (by omega) (by omega) (by omega)) [] [0, 1, 2, 3, 4, 5, 6, 7, 8] gX1_layOnCause_X6_within_n130 (fun _ h => h.2.2.2.2.1) (List.mem_of_getElem? (i := 18) rfl) (List.mem_of_getElem? (i := 17) rfl) rfl (by decide +kernel) ⟨by decide, by decide⟩ rfl rfl rfl rfl rfl (by decide) rfl (by decide) (by decide) (fun _ h => absurd h List.not_mem_nil) dX1_layOnCause_94 rfl (Nat.le_of_ble_eq_true rfl) ⟨by decide, by decide⟩ (fun r u p_7 => ?_)
        obtain ⟨rfl, rfl⟩ := p_7
        refine g_perm (ws1 := [(v, oo 1 [.ref ma, .int (iI M), .ref fo, .ref la, .int (iI ti), .int (iI so), .int (iI ta), .int (iI go), .int (iI (sl + 1))]), (ma, aM E 6 mq), (la, aI E 8 ld), (ad 0, oo 3 (fMa 0 .null (sd 0) (g 0))), (ad 1, oo 3 (fMa 1 (.ref (ad 0)) (sd 1) (g 1))), (ad 2, oo 3 (fMa 2 (.ref (ad 1)) (sd 2) (g 2))), (ad 3, oo 3 (fMa 3 (.ref (ad 2)) (sd 3) (g 3))), (ad 4, oo 3 (fMa 4 (.ref (ad 3)) (sd 4) (g 4))), (ad 5, oo 3 (fMa 5 (.ref (ad 4)) (sd 5) (g 5)))]) [0, 1, 2, 3, 4, 5, 6, 7, 8] rfl (by decide) rfl ?_
        refine g_if_eq_b (tgt := 113) dX1_layOnCause_97 rfl (fun _ => ?_) (fun q => absurd (by decide) q)
        refine g_aload_n 0 dX1_layOnCause_100 rfl rfl ?_
        refine g_get (C := RX1) (T := TX1) (N := 9) 0 3 (fun _ h => List.mem_cons_of_mem _ (List.mem_append_right _ h)) (List.mem_of_getElem? (i := 4) rfl) rfl rfl (by decide) rfl rfl dX1_layOnCause_101 ?_
        refine g_aload_n 1 dX1_layOnCause_104 rfl rfl ?_
        refine g_get (v := .int (iI 1)) (C := RX3) (T := TX3) (N := 14) 4 0 (fun _ h => List.mem_cons_of_mem _ (List.mem_append_left _ (List.mem_append_right _ h))) (List.mem_of_getElem? (i := 5) rfl) rfl rfl (by decide) rfl rfl dX1_layOnCause_105 ?_
        refine g_dup2 dX1_layOnCause_108 rfl rfl ?_
        refine g_iald 2 dX1_layOnCause_109 rfl (by decide) (by omega) (by omega) ?_
        refine g_iconst dX1_layOnCause_110 ?_
        refine g_iadd dX1_layOnCause_111 ?_
        refine g_iast (ws1 := [(v, oo 1 [.ref ma, .int (iI M), .ref fo, .ref la, .int (iI ti), .int (iI so), .int (iI ta), .int (iI go), .int (iI (sl + 1))]), (ma, aM E 6 mq), (la, aI E 8 (up ld 1 ((ld 1) + 1))), (ad 0, oo 3 (fMa 0 .null (sd 0) (g 0))), (ad 1, oo 3 (fMa 1 (.ref (ad 0)) (sd 1) (g 1))), (ad 2, oo 3 (fMa 2 (.ref (ad 1)) (sd 2) (g 2))), (ad 3, oo 3 (fMa 3 (.ref (ad 2)) (sd 3) (g 3))), (ad 4, oo 3 (fMa 4 (.ref (ad 3)) (sd 4) (g 4))), (ad 5, oo 3 (fMa 5 (.ref (ad 4)) (sd 5) (g 5)))]) 2 dX1_layOnCause_112 rfl rfl (by decide) (by omega) (by omega) ?_
        exact g_vret hRet dX1_layOnCause_113 ⟨(sl + 1), (up ld 1 ((ld 1) + 1)), (by unfold sLay; rw [if_neg hst]; refine ⟨rfl, ?_⟩; rw [hcau]; first | rfl | (show _ = up ld (if _ then _ else _) (ld (if _ then _ else _) + 1); first | (rw [if_neg (by assumption), if_pos (by assumption)]; done) | (rw [if_neg (by assumption), if_neg (by assumption)]; rfl))), rfl⟩
  have K28_2 : ∀  (hcau : cau g M.toNat = cau g 3) (hst : ¬ g (M - 1) 9 = 3), G X ({ frames := 2, cells := 0, slots := 0, locals := 41 } : Room) cX1_layOnCause 2 RX1 wsX1_layOnCause E [] 0 0 [(v, oo 1 [.ref ma, .int (iI M), .ref fo, .ref la, .int (iI ti), .int (iI so), .int (iI ta), .int (iI go), .int (iI (sl + 1))]), (ma, aM E 6 mq), (la, aI E 8 ld), (ad 0, oo 3 (fMa 0 .null (sd 0) (g 0))), (ad 1, oo 3 (fMa 1 (.ref (ad 0)) (sd 1) (g 1))), (ad 2, oo 3 (fMa 2 (.ref (ad 1)) (sd 2) (g 2))), (ad 3, oo 3 (fMa 3 (.ref (ad 2)) (sd 3) (g 3))), (ad 4, oo 3 (fMa 4 (.ref (ad 3)) (sd 4) (g 4))), (ad 5, oo 3 (fMa 5 (.ref (ad 4)) (sd 5) (g 5)))] [(0, .ref v), (1, .ref (ad 2))] 28 [] := by
    intro  hcau hst
    refine g_aload_n 1 dX1_layOnCause_28 rfl rfl ?_
    refine g_ifnull dX1_layOnCause_29 ?_
    refine g_aload_n 1 dX1_layOnCause_32 rfl rfl ?_
    refine g_get (v := .int (iI ((g 2) 9))) (C := RX3) (T := TX3) (N := 14) 5 12 (fun _ h => List.mem_cons_of_mem _ (List.mem_append_left _ (List.mem_append_right _ h))) (List.mem_of_getElem? (i := 1) rfl) rfl rfl (by decide) rfl rfl dX1_layOnCause_33 ?_
    refine g_iconst dX1_layOnCause_36 ?_
    refine g_icmp_ne (tgt := 48) (by unfold R32; omega) (by unfold R32; omega) dX1_layOnCause_37 rfl (fun c_9 => ?_) (fun c_9 => ?_)
    · refine g_aload_n 1 dX1_layOnCause_40 rfl rfl ?_
      refine g_get (v := .ref (ad 1)) (C := RX3) (T := TX3) (N := 14) 5 1 (fun _ h => List.mem_cons_of_mem _ (List.mem_append_left _ (List.mem_append_right _ h))) (List.mem_of_getElem? (i := 3) rfl) rfl rfl (by decide) rfl rfl dX1_layOnCause_41 ?_
      refine g_astore_n (lv1 := [(1, .ref (ad 1)), (0, .ref v)]) dX1_layOnCause_44 rfl (by decide) rfl ?_
      refine g_goto (tgt := 28) dX1_layOnCause_45 rfl ?_
      refine g_lv (lv1 := [(0, .ref v), (1, .ref (ad 1))]) [1, 0] rfl ?_
      exact K28_1  (by rw [hcau]; show (if _ then _ else _) = _; rw [if_pos (by assumption)]) (by exact hst)
    · refine g_aload_n 1 dX1_layOnCause_48 rfl rfl ?_
      refine g_ifnonnull (tgt := 66) dX1_layOnCause_49 rfl ?_
      refine g_aload_n 1 dX1_layOnCause_66 rfl rfl ?_
      refine g_get (v := .int (iI ((g 2) 9))) (C := RX3) (T := TX3) (N := 14) 5 12 (fun _ h => List.mem_cons_of_mem _ (List.mem_append_left _ (List.mem_append_right _ h))) (List.mem_of_getElem? (i := 1) rfl) rfl rfl (by decide) rfl rfl dX1_layOnCause_67 ?_
      refine g_iconst dX1_layOnCause_70 ?_
      refine g_icmp_ne (tgt := 88) (by unfold R32; omega) (by unfold R32; omega) dX1_layOnCause_71 rfl (fun c_10 => ?_) (fun c_10 => ?_)
      · refine g_aload_n 0 dX1_layOnCause_74 rfl rfl ?_
        refine g_get (C := RX1) (T := TX1) (N := 9) 0 3 (fun _ h => List.mem_cons_of_mem _ (List.mem_append_right _ h)) (List.mem_of_getElem? (i := 4) rfl) rfl rfl (by decide) rfl rfl dX1_layOnCause_75 ?_
        refine g_bipush dX1_layOnCause_78 rfl ?_
        refine g_dup2 dX1_layOnCause_80 rfl rfl ?_
        refine g_iald 2 dX1_layOnCause_81 rfl (by decide) (by omega) (by omega) ?_
        refine g_iconst dX1_layOnCause_82 ?_
        refine g_iadd dX1_layOnCause_83 ?_
        refine g_iast (ws1 := [(v, oo 1 [.ref ma, .int (iI M), .ref fo, .ref la, .int (iI ti), .int (iI so), .int (iI ta), .int (iI go), .int (iI (sl + 1))]), (ma, aM E 6 mq), (la, aI E 8 (up ld 6 ((ld 6) + 1))), (ad 0, oo 3 (fMa 0 .null (sd 0) (g 0))), (ad 1, oo 3 (fMa 1 (.ref (ad 0)) (sd 1) (g 1))), (ad 2, oo 3 (fMa 2 (.ref (ad 1)) (sd 2) (g 2))), (ad 3, oo 3 (fMa 3 (.ref (ad 2)) (sd 3) (g 3))), (ad 4, oo 3 (fMa 4 (.ref (ad 3)) (sd 4) (g 4))), (ad 5, oo 3 (fMa 5 (.ref (ad 4)) (sd 5) (g 5)))]) 2 dX1_layOnCause_84 rfl rfl (by decide) (by omega) (by omega) ?_
        refine g_goto (tgt := 113) dX1_layOnCause_85 rfl ?_
        exact g_vret hRet dX1_layOnCause_113 ⟨(sl + 1), (up ld 6 ((ld 6) + 1)), (by unfold sLay; rw [if_neg hst]; refine ⟨rfl, ?_⟩; rw [hcau]; first | rfl | (show _ = up ld (if _ then _ else _) (ld (if _ then _ else _) + 1); first | (rw [if_neg (by assumption), if_pos (by assumption)]; done) | (rw [if_neg (by assumption), if_neg (by assumption)]; rfl))), rfl⟩
      · refine g_aload_n 1 dX1_layOnCause_88 rfl rfl ?_
        refine g_get (v := .int (iI 2)) (C := RX3) (T := TX3) (N := 14) 5 0 (fun _ h => List.mem_cons_of_mem _ (List.mem_append_left _ (List.mem_append_right _ h))) (List.mem_of_getElem? (i := 5) rfl) rfl rfl (by decide) rfl rfl dX1_layOnCause_89 ?_
        refine g_iconst dX1_layOnCause_92 ?_
        refine g_iconst dX1_layOnCause_93 ?_
        refine g_callN_i (n := 3) (As := [.int (iI 2), .int (iI 0), .int (iI 5)]) (wr := [(v, oo 1 [.ref ma, .int (iI M), .ref fo, .ref la, .int (iI ti), .int (iI so), .int (iI ta), .int (iI go), .int (iI (sl + 1))]), (ma, aM E 6 mq), (la, aI E 8 ld), (ad 0, oo 3 (fMa 0 .null (sd 0) (g 0))), (ad 1, oo 3 (fMa 1 (.ref (ad 0)) (sd 1) (g 1))), (ad 2, oo 3 (fMa 2 (.ref (ad 1)) (sd 2) (g 2))), (ad 3, oo 3 (fMa 3 (.ref (ad 2)) (sd 3) (g 3))), (ad 4, oo 3 (fMa 4 (.ref (ad 3)) (sd 4) (g 4))), (ad 5, oo 3 (fMa 5 (.ref (ad 4)) (sd 5) (g 5)))]) [] (c_X6_within E 2 0 5 (by omega) (by omega) (by omega)) [] [0, 1, 2, 3, 4, 5, 6, 7, 8] gX1_layOnCause_X6_within_n130 (fun _ h => h.2.2.2.2.1) (List.mem_of_getElem? (i := 18) rfl) (List.mem_of_getElem? (i := 17) rfl) rfl (by decide +kernel) ⟨by decide, by decide⟩ rfl rfl rfl rfl rfl (by decide) rfl (by decide) (by decide) (fun _ h => absurd h List.not_mem_nil) dX1_layOnCause_94 rfl (Nat.le_of_ble_eq_true rfl) ⟨by decide, by decide⟩ (fun r u p_11 => ?_)
        obtain ⟨rfl, rfl⟩ := p_11
        refine g_perm (ws1 := [(v, oo 1 [.ref ma, .int (iI M), .ref fo, .ref la, .int (iI ti), .int (iI so), .int (iI ta), .int (iI go), .int (iI (sl + 1))]), (ma, aM E 6 mq), (la, aI E 8 ld), (ad 0, oo 3 (fMa 0 .null (sd 0) (g 0))), (ad 1, oo 3 (fMa 1 (.ref (ad 0)) (sd 1) (g 1))), (ad 2, oo 3 (fMa 2 (.ref (ad 1)) (sd 2) (g 2))), (ad 3, oo 3 (fMa 3 (.ref (ad 2)) (sd 3) (g 3))), (ad 4, oo 3 (fMa 4 (.ref (ad 3)) (sd 4) (g 4))), (ad 5, oo 3 (fMa 5 (.ref (ad 4)) (sd 5) (g 5)))]) [0, 1, 2, 3, 4, 5, 6, 7, 8] rfl (by decide) rfl ?_
        refine g_if_eq_b (tgt := 113) dX1_layOnCause_97 rfl (fun _ => ?_) (fun q => absurd (by decide) q)
        refine g_aload_n 0 dX1_layOnCause_100 rfl rfl ?_
        refine g_get (C := RX1) (T := TX1) (N := 9) 0 3 (fun _ h => List.mem_cons_of_mem _ (List.mem_append_right _ h)) (List.mem_of_getElem? (i := 4) rfl) rfl rfl (by decide) rfl rfl dX1_layOnCause_101 ?_
        refine g_aload_n 1 dX1_layOnCause_104 rfl rfl ?_
        refine g_get (v := .int (iI 2)) (C := RX3) (T := TX3) (N := 14) 5 0 (fun _ h => List.mem_cons_of_mem _ (List.mem_append_left _ (List.mem_append_right _ h))) (List.mem_of_getElem? (i := 5) rfl) rfl rfl (by decide) rfl rfl dX1_layOnCause_105 ?_
        refine g_dup2 dX1_layOnCause_108 rfl rfl ?_
        refine g_iald 2 dX1_layOnCause_109 rfl (by decide) (by omega) (by omega) ?_
        refine g_iconst dX1_layOnCause_110 ?_
        refine g_iadd dX1_layOnCause_111 ?_
        refine g_iast (ws1 := [(v, oo 1 [.ref ma, .int (iI M), .ref fo, .ref la, .int (iI ti), .int (iI so), .int (iI ta), .int (iI go), .int (iI (sl + 1))]), (ma, aM E 6 mq), (la, aI E 8 (up ld 2 ((ld 2) + 1))), (ad 0, oo 3 (fMa 0 .null (sd 0) (g 0))), (ad 1, oo 3 (fMa 1 (.ref (ad 0)) (sd 1) (g 1))), (ad 2, oo 3 (fMa 2 (.ref (ad 1)) (sd 2) (g 2))), (ad 3, oo 3 (fMa 3 (.ref (ad 2)) (sd 3) (g 3))), (ad 4, oo 3 (fMa 4 (.ref (ad 3)) (sd 4) (g 4))), (ad 5, oo 3 (fMa 5 (.ref (ad 4)) (sd 5) (g 5)))]) 2 dX1_layOnCause_112 rfl rfl (by decide) (by omega) (by omega) ?_
        exact g_vret hRet dX1_layOnCause_113 ⟨(sl + 1), (up ld 2 ((ld 2) + 1)), (by unfold sLay; rw [if_neg hst]; refine ⟨rfl, ?_⟩; rw [hcau]; first | rfl | (show _ = up ld (if _ then _ else _) (ld (if _ then _ else _) + 1); first | (rw [if_neg (by assumption), if_pos (by assumption)]; done) | (rw [if_neg (by assumption), if_neg (by assumption)]; rfl))), rfl⟩
  have K28_3 : ∀  (hcau : cau g M.toNat = cau g 4) (hst : ¬ g (M - 1) 9 = 3), G X ({ frames := 2, cells := 0, slots := 0, locals := 41 } : Room) cX1_layOnCause 2 RX1 wsX1_layOnCause E [] 0 0 [(v, oo 1 [.ref ma, .int (iI M), .ref fo, .ref la, .int (iI ti), .int (iI so), .int (iI ta), .int (iI go), .int (iI (sl + 1))]), (ma, aM E 6 mq), (la, aI E 8 ld), (ad 0, oo 3 (fMa 0 .null (sd 0) (g 0))), (ad 1, oo 3 (fMa 1 (.ref (ad 0)) (sd 1) (g 1))), (ad 2, oo 3 (fMa 2 (.ref (ad 1)) (sd 2) (g 2))), (ad 3, oo 3 (fMa 3 (.ref (ad 2)) (sd 3) (g 3))), (ad 4, oo 3 (fMa 4 (.ref (ad 3)) (sd 4) (g 4))), (ad 5, oo 3 (fMa 5 (.ref (ad 4)) (sd 5) (g 5)))] [(0, .ref v), (1, .ref (ad 3))] 28 [] := by
    intro  hcau hst
    refine g_aload_n 1 dX1_layOnCause_28 rfl rfl ?_
    refine g_ifnull dX1_layOnCause_29 ?_
    refine g_aload_n 1 dX1_layOnCause_32 rfl rfl ?_
    refine g_get (v := .int (iI ((g 3) 9))) (C := RX3) (T := TX3) (N := 14) 6 12 (fun _ h => List.mem_cons_of_mem _ (List.mem_append_left _ (List.mem_append_right _ h))) (List.mem_of_getElem? (i := 1) rfl) rfl rfl (by decide) rfl rfl dX1_layOnCause_33 ?_
    refine g_iconst dX1_layOnCause_36 ?_
    refine g_icmp_ne (tgt := 48) (by unfold R32; omega) (by unfold R32; omega) dX1_layOnCause_37 rfl (fun c_13 => ?_) (fun c_13 => ?_)
    · refine g_aload_n 1 dX1_layOnCause_40 rfl rfl ?_
      refine g_get (v := .ref (ad 2)) (C := RX3) (T := TX3) (N := 14) 6 1 (fun _ h => List.mem_cons_of_mem _ (List.mem_append_left _ (List.mem_append_right _ h))) (List.mem_of_getElem? (i := 3) rfl) rfl rfl (by decide) rfl rfl dX1_layOnCause_41 ?_
      refine g_astore_n (lv1 := [(1, .ref (ad 2)), (0, .ref v)]) dX1_layOnCause_44 rfl (by decide) rfl ?_
      refine g_goto (tgt := 28) dX1_layOnCause_45 rfl ?_
      refine g_lv (lv1 := [(0, .ref v), (1, .ref (ad 2))]) [1, 0] rfl ?_
      exact K28_2  (by rw [hcau]; show (if _ then _ else _) = _; rw [if_pos (by assumption)]) (by exact hst)
    · refine g_aload_n 1 dX1_layOnCause_48 rfl rfl ?_
      refine g_ifnonnull (tgt := 66) dX1_layOnCause_49 rfl ?_
      refine g_aload_n 1 dX1_layOnCause_66 rfl rfl ?_
      refine g_get (v := .int (iI ((g 3) 9))) (C := RX3) (T := TX3) (N := 14) 6 12 (fun _ h => List.mem_cons_of_mem _ (List.mem_append_left _ (List.mem_append_right _ h))) (List.mem_of_getElem? (i := 1) rfl) rfl rfl (by decide) rfl rfl dX1_layOnCause_67 ?_
      refine g_iconst dX1_layOnCause_70 ?_
      refine g_icmp_ne (tgt := 88) (by unfold R32; omega) (by unfold R32; omega) dX1_layOnCause_71 rfl (fun c_14 => ?_) (fun c_14 => ?_)
      · refine g_aload_n 0 dX1_layOnCause_74 rfl rfl ?_
        refine g_get (C := RX1) (T := TX1) (N := 9) 0 3 (fun _ h => List.mem_cons_of_mem _ (List.mem_append_right _ h)) (List.mem_of_getElem? (i := 4) rfl) rfl rfl (by decide) rfl rfl dX1_layOnCause_75 ?_
        refine g_bipush dX1_layOnCause_78 rfl ?_
        refine g_dup2 dX1_layOnCause_80 rfl rfl ?_
        refine g_iald 2 dX1_layOnCause_81 rfl (by decide) (by omega) (by omega) ?_
        refine g_iconst dX1_layOnCause_82 ?_
        refine g_iadd dX1_layOnCause_83 ?_
        refine g_iast (ws1 := [(v, oo 1 [.ref ma, .int (iI M), .ref fo, .ref la, .int (iI ti), .int (iI so), .int (iI ta), .int (iI go), .int (iI (sl + 1))]), (ma, aM E 6 mq), (la, aI E 8 (up ld 6 ((ld 6) + 1))), (ad 0, oo 3 (fMa 0 .null (sd 0) (g 0))), (ad 1, oo 3 (fMa 1 (.ref (ad 0)) (sd 1) (g 1))), (ad 2, oo 3 (fMa 2 (.ref (ad 1)) (sd 2) (g 2))), (ad 3, oo 3 (fMa 3 (.ref (ad 2)) (sd 3) (g 3))), (ad 4, oo 3 (fMa 4 (.ref (ad 3)) (sd 4) (g 4))), (ad 5, oo 3 (fMa 5 (.ref (ad 4)) (sd 5) (g 5)))]) 2 dX1_layOnCause_84 rfl rfl (by decide) (by omega) (by omega) ?_
        refine g_goto (tgt := 113) dX1_layOnCause_85 rfl ?_
        exact g_vret hRet dX1_layOnCause_113 ⟨(sl + 1), (up ld 6 ((ld 6) + 1)), (by unfold sLay; rw [if_neg hst]; refine ⟨rfl, ?_⟩; rw [hcau]; first | rfl | (show _ = up ld (if _ then _ else _) (ld (if _ then _ else _) + 1); first | (rw [if_neg (by assumption), if_pos (by assumption)]; done) | (rw [if_neg (by assumption), if_neg (by assumption)]; rfl))), rfl⟩
      · refine g_aload_n 1 dX1_layOnCause_88 rfl rfl ?_
        refine g_get (v := .int (iI 3)) (C := RX3) (T := TX3) (N := 14) 6 0 (fun _ h => List.mem_cons_of_mem _ (List.mem_append_left _ (List.mem_append_right _ h))) (List.mem_of_getElem? (i := 5) rfl) rfl rfl (by decide) rfl rfl dX1_layOnCause_89 ?_
        refine g_iconst dX1_layOnCause_92 ?_
        refine g_iconst dX1_layOnCause_93 ?_
        refine g_callN_i (n := 3) (As := [.int (iI 3), .int (iI 0), .int (iI 5)]) (wr := [(v, oo 1 [.ref ma, .int (iI M), .ref fo, .ref la, .int (iI ti), .int (iI so), .int (iI ta), .int (iI go), .int (iI (sl + 1))]), (ma, aM E 6 mq), (la, aI E 8 ld), (ad 0, oo 3 (fMa 0 .null (sd 0) (g 0))), (ad 1, oo 3 (fMa 1 (.ref (ad 0)) (sd 1) (g 1))), (ad 2, oo 3 (fMa 2 (.ref (ad 1)) (sd 2) (g 2))), (ad 3, oo 3 (fMa 3 (.ref (ad 2)) (sd 3) (g 3))), (ad 4, oo 3 (fMa 4 (.ref (ad 3)) (sd 4) (g 4))), (ad 5, oo 3 (fMa 5 (.ref (ad 4)) (sd 5) (g 5)))]) [] (c_X6_within E 3 0 5 (by omega) (by omega) (by omega)) [] [0, 1, 2, 3, 4, 5, 6, 7, 8] gX1_layOnCause_X6_within_n130 (fun _ h => h.2.2.2.2.1) (List.mem_of_getElem? (i := 18) rfl) (List.mem_of_getElem? (i := 17) rfl) rfl (by decide +kernel) ⟨by decide, by decide⟩ rfl rfl rfl rfl rfl (by decide) rfl (by decide) (by decide) (fun _ h => absurd h List.not_mem_nil) dX1_layOnCause_94 rfl (Nat.le_of_ble_eq_true rfl) ⟨by decide, by decide⟩ (fun r u p_15 => ?_)
        obtain ⟨rfl, rfl⟩ := p_15
        refine g_perm (ws1 := [(v, oo 1 [.ref ma, .int (iI M), .ref fo, .ref la, .int (iI ti), .int (iI so), .int (iI ta), .int (iI go), .int (iI (sl + 1))]), (ma, aM E 6 mq), (la, aI E 8 ld), (ad 0, oo 3 (fMa 0 .null (sd 0) (g 0))), (ad 1, oo 3 (fMa 1 (.ref (ad 0)) (sd 1) (g 1))), (ad 2, oo 3 (fMa 2 (.ref (ad 1)) (sd 2) (g 2))), (ad 3, oo 3 (fMa 3 (.ref (ad 2)) (sd 3) (g 3))), (ad 4, oo 3 (fMa 4 (.ref (ad 3)) (sd 4) (g 4))), (ad 5, oo 3 (fMa 5 (.ref (ad 4)) (sd 5) (g 5)))]) [0, 1, 2, 3, 4, 5, 6, 7, 8] rfl (by decide) rfl ?_
        refine g_if_eq_b (tgt := 113) dX1_layOnCause_97 rfl (fun _ => ?_) (fun q => absurd (by decide) q)
        refine g_aload_n 0 dX1_layOnCause_100 rfl rfl ?_
        refine g_get (C := RX1) (T := TX1) (N := 9) 0 3 (fun _ h => List.mem_cons_of_mem _ (List.mem_append_right _ h)) (List.mem_of_getElem? (i := 4) rfl) rfl rfl (by decide) rfl rfl dX1_layOnCause_101 ?_
        refine g_aload_n 1 dX1_layOnCause_104 rfl rfl ?_
        refine g_get (v := .int (iI 3)) (C := RX3) (T := TX3) (N := 14) 6 0 (fun _ h => List.mem_cons_of_mem _ (List.mem_append_left _ (List.mem_append_right _ h))) (List.mem_of_getElem? (i := 5) rfl) rfl rfl (by decide) rfl rfl dX1_layOnCause_105 ?_
        refine g_dup2 dX1_layOnCause_108 rfl rfl ?_
        refine g_iald 2 dX1_layOnCause_109 rfl (by decide) (by omega) (by omega) ?_
        refine g_iconst dX1_layOnCause_110 ?_
        refine g_iadd dX1_layOnCause_111 ?_
        refine g_iast (ws1 := [(v, oo 1 [.ref ma, .int (iI M), .ref fo, .ref la, .int (iI ti), .int (iI so), .int (iI ta), .int (iI go), .int (iI (sl + 1))]), (ma, aM E 6 mq), (la, aI E 8 (up ld 3 ((ld 3) + 1))), (ad 0, oo 3 (fMa 0 .null (sd 0) (g 0))), (ad 1, oo 3 (fMa 1 (.ref (ad 0)) (sd 1) (g 1))), (ad 2, oo 3 (fMa 2 (.ref (ad 1)) (sd 2) (g 2))), (ad 3, oo 3 (fMa 3 (.ref (ad 2)) (sd 3) (g 3))), (ad 4, oo 3 (fMa 4 (.ref (ad 3)) (sd 4) (g 4))), (ad 5, oo 3 (fMa 5 (.ref (ad 4)) (sd 5) (g 5)))]) 2 dX1_layOnCause_112 rfl rfl (by decide) (by omega) (by omega) ?_
        exact g_vret hRet dX1_layOnCause_113 ⟨(sl + 1), (up ld 3 ((ld 3) + 1)), (by unfold sLay; rw [if_neg hst]; refine ⟨rfl, ?_⟩; rw [hcau]; first | rfl | (show _ = up ld (if _ then _ else _) (ld (if _ then _ else _) + 1); first | (rw [if_neg (by assumption), if_pos (by assumption)]; done) | (rw [if_neg (by assumption), if_neg (by assumption)]; rfl))), rfl⟩
  have K28_4 : ∀  (hcau : cau g M.toNat = cau g 5) (hst : ¬ g (M - 1) 9 = 3), G X ({ frames := 2, cells := 0, slots := 0, locals := 41 } : Room) cX1_layOnCause 2 RX1 wsX1_layOnCause E [] 0 0 [(v, oo 1 [.ref ma, .int (iI M), .ref fo, .ref la, .int (iI ti), .int (iI so), .int (iI ta), .int (iI go), .int (iI (sl + 1))]), (ma, aM E 6 mq), (la, aI E 8 ld), (ad 0, oo 3 (fMa 0 .null (sd 0) (g 0))), (ad 1, oo 3 (fMa 1 (.ref (ad 0)) (sd 1) (g 1))), (ad 2, oo 3 (fMa 2 (.ref (ad 1)) (sd 2) (g 2))), (ad 3, oo 3 (fMa 3 (.ref (ad 2)) (sd 3) (g 3))), (ad 4, oo 3 (fMa 4 (.ref (ad 3)) (sd 4) (g 4))), (ad 5, oo 3 (fMa 5 (.ref (ad 4)) (sd 5) (g 5)))] [(0, .ref v), (1, .ref (ad 4))] 28 [] := by
    intro  hcau hst
    refine g_aload_n 1 dX1_layOnCause_28 rfl rfl ?_
    refine g_ifnull dX1_layOnCause_29 ?_
    refine g_aload_n 1 dX1_layOnCause_32 rfl rfl ?_
    refine g_get (v := .int (iI ((g 4) 9))) (C := RX3) (T := TX3) (N := 14) 7 12 (fun _ h => List.mem_cons_of_mem _ (List.mem_append_left _ (List.mem_append_right _ h))) (List.mem_of_getElem? (i := 1) rfl) rfl rfl (by decide) rfl rfl dX1_layOnCause_33 ?_
    refine g_iconst dX1_layOnCause_36 ?_
    refine g_icmp_ne (tgt := 48) (by unfold R32; omega) (by unfold R32; omega) dX1_layOnCause_37 rfl (fun c_17 => ?_) (fun c_17 => ?_)
    · refine g_aload_n 1 dX1_layOnCause_40 rfl rfl ?_
      refine g_get (v := .ref (ad 3)) (C := RX3) (T := TX3) (N := 14) 7 1 (fun _ h => List.mem_cons_of_mem _ (List.mem_append_left _ (List.mem_append_right _ h))) (List.mem_of_getElem? (i := 3) rfl) rfl rfl (by decide) rfl rfl dX1_layOnCause_41 ?_
      refine g_astore_n (lv1 := [(1, .ref (ad 3)), (0, .ref v)]) dX1_layOnCause_44 rfl (by decide) rfl ?_
      refine g_goto (tgt := 28) dX1_layOnCause_45 rfl ?_
      refine g_lv (lv1 := [(0, .ref v), (1, .ref (ad 3))]) [1, 0] rfl ?_
      exact K28_3  (by rw [hcau]; show (if _ then _ else _) = _; rw [if_pos (by assumption)]) (by exact hst)
    · refine g_aload_n 1 dX1_layOnCause_48 rfl rfl ?_
      refine g_ifnonnull (tgt := 66) dX1_layOnCause_49 rfl ?_
      refine g_aload_n 1 dX1_layOnCause_66 rfl rfl ?_
      refine g_get (v := .int (iI ((g 4) 9))) (C := RX3) (T := TX3) (N := 14) 7 12 (fun _ h => List.mem_cons_of_mem _ (List.mem_append_left _ (List.mem_append_right _ h))) (List.mem_of_getElem? (i := 1) rfl) rfl rfl (by decide) rfl rfl dX1_layOnCause_67 ?_
      refine g_iconst dX1_layOnCause_70 ?_
      refine g_icmp_ne (tgt := 88) (by unfold R32; omega) (by unfold R32; omega) dX1_layOnCause_71 rfl (fun c_18 => ?_) (fun c_18 => ?_)
      · refine g_aload_n 0 dX1_layOnCause_74 rfl rfl ?_
        refine g_get (C := RX1) (T := TX1) (N := 9) 0 3 (fun _ h => List.mem_cons_of_mem _ (List.mem_append_right _ h)) (List.mem_of_getElem? (i := 4) rfl) rfl rfl (by decide) rfl rfl dX1_layOnCause_75 ?_
        refine g_bipush dX1_layOnCause_78 rfl ?_
        refine g_dup2 dX1_layOnCause_80 rfl rfl ?_
        refine g_iald 2 dX1_layOnCause_81 rfl (by decide) (by omega) (by omega) ?_
        refine g_iconst dX1_layOnCause_82 ?_
        refine g_iadd dX1_layOnCause_83 ?_
        refine g_iast (ws1 := [(v, oo 1 [.ref ma, .int (iI M), .ref fo, .ref la, .int (iI ti), .int (iI so), .int (iI ta), .int (iI go), .int (iI (sl + 1))]), (ma, aM E 6 mq), (la, aI E 8 (up ld 6 ((ld 6) + 1))), (ad 0, oo 3 (fMa 0 .null (sd 0) (g 0))), (ad 1, oo 3 (fMa 1 (.ref (ad 0)) (sd 1) (g 1))), (ad 2, oo 3 (fMa 2 (.ref (ad 1)) (sd 2) (g 2))), (ad 3, oo 3 (fMa 3 (.ref (ad 2)) (sd 3) (g 3))), (ad 4, oo 3 (fMa 4 (.ref (ad 3)) (sd 4) (g 4))), (ad 5, oo 3 (fMa 5 (.ref (ad 4)) (sd 5) (g 5)))]) 2 dX1_layOnCause_84 rfl rfl (by decide) (by omega) (by omega) ?_
        refine g_goto (tgt := 113) dX1_layOnCause_85 rfl ?_
        exact g_vret hRet dX1_layOnCause_113 ⟨(sl + 1), (up ld 6 ((ld 6) + 1)), (by unfold sLay; rw [if_neg hst]; refine ⟨rfl, ?_⟩; rw [hcau]; first | rfl | (show _ = up ld (if _ then _ else _) (ld (if _ then _ else _) + 1); first | (rw [if_neg (by assumption), if_pos (by assumption)]; done) | (rw [if_neg (by assumption), if_neg (by assumption)]; rfl))), rfl⟩
      · refine g_aload_n 1 dX1_layOnCause_88 rfl rfl ?_
        refine g_get (v := .int (iI 4)) (C := RX3) (T := TX3) (N := 14) 7 0 (fun _ h => List.mem_cons_of_mem _ (List.mem_append_left _ (List.mem_append_right _ h))) (List.mem_of_getElem? (i := 5) rfl) rfl rfl (by decide) rfl rfl dX1_layOnCause_89 ?_
        refine g_iconst dX1_layOnCause_92 ?_
        refine g_iconst dX1_layOnCause_93 ?_
        refine g_callN_i (n := 3) (As := [.int (iI 4), .int (iI 0), .int (iI 5)]) (wr := [(v, oo 1 [.ref ma, .int (iI M), .ref fo, .ref la, .int (iI ti), .int (iI so), .int (iI ta), .int (iI go), .int (iI (sl + 1))]), (ma, aM E 6 mq), (la, aI E 8 ld), (ad 0, oo 3 (fMa 0 .null (sd 0) (g 0))), (ad 1, oo 3 (fMa 1 (.ref (ad 0)) (sd 1) (g 1))), (ad 2, oo 3 (fMa 2 (.ref (ad 1)) (sd 2) (g 2))), (ad 3, oo 3 (fMa 3 (.ref (ad 2)) (sd 3) (g 3))), (ad 4, oo 3 (fMa 4 (.ref (ad 3)) (sd 4) (g 4))), (ad 5, oo 3 (fMa 5 (.ref (ad 4)) (sd 5) (g 5)))]) [] (c_X6_within E 4 0 5 (by omega) (by omega) (by omega)) [] [0, 1, 2, 3, 4, 5, 6, 7, 8] gX1_layOnCause_X6_within_n130 (fun _ h => h.2.2.2.2.1) (List.mem_of_getElem? (i := 18) rfl) (List.mem_of_getElem? (i := 17) rfl) rfl (by decide +kernel) ⟨by decide, by decide⟩ rfl rfl rfl rfl rfl (by decide) rfl (by decide) (by decide) (fun _ h => absurd h List.not_mem_nil) dX1_layOnCause_94 rfl (Nat.le_of_ble_eq_true rfl) ⟨by decide, by decide⟩ (fun r u p_19 => ?_)
        obtain ⟨rfl, rfl⟩ := p_19
        refine g_perm (ws1 := [(v, oo 1 [.ref ma, .int (iI M), .ref fo, .ref la, .int (iI ti), .int (iI so), .int (iI ta), .int (iI go), .int (iI (sl + 1))]), (ma, aM E 6 mq), (la, aI E 8 ld), (ad 0, oo 3 (fMa 0 .null (sd 0) (g 0))), (ad 1, oo 3 (fMa 1 (.ref (ad 0)) (sd 1) (g 1))), (ad 2, oo 3 (fMa 2 (.ref (ad 1)) (sd 2) (g 2))), (ad 3, oo 3 (fMa 3 (.ref (ad 2)) (sd 3) (g 3))), (ad 4, oo 3 (fMa 4 (.ref (ad 3)) (sd 4) (g 4))), (ad 5, oo 3 (fMa 5 (.ref (ad 4)) (sd 5) (g 5)))]) [0, 1, 2, 3, 4, 5, 6, 7, 8] rfl (by decide) rfl ?_
        refine g_if_eq_b (tgt := 113) dX1_layOnCause_97 rfl (fun _ => ?_) (fun q => absurd (by decide) q)
        refine g_aload_n 0 dX1_layOnCause_100 rfl rfl ?_
        refine g_get (C := RX1) (T := TX1) (N := 9) 0 3 (fun _ h => List.mem_cons_of_mem _ (List.mem_append_right _ h)) (List.mem_of_getElem? (i := 4) rfl) rfl rfl (by decide) rfl rfl dX1_layOnCause_101 ?_
        refine g_aload_n 1 dX1_layOnCause_104 rfl rfl ?_
        refine g_get (v := .int (iI 4)) (C := RX3) (T := TX3) (N := 14) 7 0 (fun _ h => List.mem_cons_of_mem _ (List.mem_append_left _ (List.mem_append_right _ h))) (List.mem_of_getElem? (i := 5) rfl) rfl rfl (by decide) rfl rfl dX1_layOnCause_105 ?_
        refine g_dup2 dX1_layOnCause_108 rfl rfl ?_
        refine g_iald 2 dX1_layOnCause_109 rfl (by decide) (by omega) (by omega) ?_
        refine g_iconst dX1_layOnCause_110 ?_
        refine g_iadd dX1_layOnCause_111 ?_
        refine g_iast (ws1 := [(v, oo 1 [.ref ma, .int (iI M), .ref fo, .ref la, .int (iI ti), .int (iI so), .int (iI ta), .int (iI go), .int (iI (sl + 1))]), (ma, aM E 6 mq), (la, aI E 8 (up ld 4 ((ld 4) + 1))), (ad 0, oo 3 (fMa 0 .null (sd 0) (g 0))), (ad 1, oo 3 (fMa 1 (.ref (ad 0)) (sd 1) (g 1))), (ad 2, oo 3 (fMa 2 (.ref (ad 1)) (sd 2) (g 2))), (ad 3, oo 3 (fMa 3 (.ref (ad 2)) (sd 3) (g 3))), (ad 4, oo 3 (fMa 4 (.ref (ad 3)) (sd 4) (g 4))), (ad 5, oo 3 (fMa 5 (.ref (ad 4)) (sd 5) (g 5)))]) 2 dX1_layOnCause_112 rfl rfl (by decide) (by omega) (by omega) ?_
        exact g_vret hRet dX1_layOnCause_113 ⟨(sl + 1), (up ld 4 ((ld 4) + 1)), (by unfold sLay; rw [if_neg hst]; refine ⟨rfl, ?_⟩; rw [hcau]; first | rfl | (show _ = up ld (if _ then _ else _) (ld (if _ then _ else _) + 1); first | (rw [if_neg (by assumption), if_pos (by assumption)]; done) | (rw [if_neg (by assumption), if_neg (by assumption)]; rfl))), rfl⟩
  have K28_5 : ∀  (hcau : cau g M.toNat = cau g 6) (hst : ¬ g (M - 1) 9 = 3), G X ({ frames := 2, cells := 0, slots := 0, locals := 41 } : Room) cX1_layOnCause 2 RX1 wsX1_layOnCause E [] 0 0 [(v, oo 1 [.ref ma, .int (iI M), .ref fo, .ref la, .int (iI ti), .int (iI so), .int (iI ta), .int (iI go), .int (iI (sl + 1))]), (ma, aM E 6 mq), (la, aI E 8 ld), (ad 0, oo 3 (fMa 0 .null (sd 0) (g 0))), (ad 1, oo 3 (fMa 1 (.ref (ad 0)) (sd 1) (g 1))), (ad 2, oo 3 (fMa 2 (.ref (ad 1)) (sd 2) (g 2))), (ad 3, oo 3 (fMa 3 (.ref (ad 2)) (sd 3) (g 3))), (ad 4, oo 3 (fMa 4 (.ref (ad 3)) (sd 4) (g 4))), (ad 5, oo 3 (fMa 5 (.ref (ad 4)) (sd 5) (g 5)))] [(0, .ref v), (1, .ref (ad 5))] 28 [] := by
    intro  hcau hst
    refine g_aload_n 1 dX1_layOnCause_28 rfl rfl ?_
    refine g_ifnull dX1_layOnCause_29 ?_
    refine g_aload_n 1 dX1_layOnCause_32 rfl rfl ?_
    refine g_get (v := .int (iI ((g 5) 9))) (C := RX3) (T := TX3) (N := 14) 8 12 (fun _ h => List.mem_cons_of_mem _ (List.mem_append_left _ (List.mem_append_right _ h))) (List.mem_of_getElem? (i := 1) rfl) rfl rfl (by decide) rfl rfl dX1_layOnCause_33 ?_
    refine g_iconst dX1_layOnCause_36 ?_
    refine g_icmp_ne (tgt := 48) (by unfold R32; omega) (by unfold R32; omega) dX1_layOnCause_37 rfl (fun c_21 => ?_) (fun c_21 => ?_)
    · refine g_aload_n 1 dX1_layOnCause_40 rfl rfl ?_
      refine g_get (v := .ref (ad 4)) (C := RX3) (T := TX3) (N := 14) 8 1 (fun _ h => List.mem_cons_of_mem _ (List.mem_append_left _ (List.mem_append_right _ h))) (List.mem_of_getElem? (i := 3) rfl) rfl rfl (by decide) rfl rfl dX1_layOnCause_41 ?_
      refine g_astore_n (lv1 := [(1, .ref (ad 4)), (0, .ref v)]) dX1_layOnCause_44 rfl (by decide) rfl ?_
      refine g_goto (tgt := 28) dX1_layOnCause_45 rfl ?_
      refine g_lv (lv1 := [(0, .ref v), (1, .ref (ad 4))]) [1, 0] rfl ?_
      exact K28_4  (by rw [hcau]; show (if _ then _ else _) = _; rw [if_pos (by assumption)]) (by exact hst)
    · refine g_aload_n 1 dX1_layOnCause_48 rfl rfl ?_
      refine g_ifnonnull (tgt := 66) dX1_layOnCause_49 rfl ?_
      refine g_aload_n 1 dX1_layOnCause_66 rfl rfl ?_
      refine g_get (v := .int (iI ((g 5) 9))) (C := RX3) (T := TX3) (N := 14) 8 12 (fun _ h => List.mem_cons_of_mem _ (List.mem_append_left _ (List.mem_append_right _ h))) (List.mem_of_getElem? (i := 1) rfl) rfl rfl (by decide) rfl rfl dX1_layOnCause_67 ?_
      refine g_iconst dX1_layOnCause_70 ?_
      refine g_icmp_ne (tgt := 88) (by unfold R32; omega) (by unfold R32; omega) dX1_layOnCause_71 rfl (fun c_22 => ?_) (fun c_22 => ?_)
      · refine g_aload_n 0 dX1_layOnCause_74 rfl rfl ?_
        refine g_get (C := RX1) (T := TX1) (N := 9) 0 3 (fun _ h => List.mem_cons_of_mem _ (List.mem_append_right _ h)) (List.mem_of_getElem? (i := 4) rfl) rfl rfl (by decide) rfl rfl dX1_layOnCause_75 ?_
        refine g_bipush dX1_layOnCause_78 rfl ?_
        refine g_dup2 dX1_layOnCause_80 rfl rfl ?_
        refine g_iald 2 dX1_layOnCause_81 rfl (by decide) (by omega) (by omega) ?_
        refine g_iconst dX1_layOnCause_82 ?_
        refine g_iadd dX1_layOnCause_83 ?_
        refine g_iast (ws1 := [(v, oo 1 [.ref ma, .int (iI M), .ref fo, .ref la, .int (iI ti), .int (iI so), .int (iI ta), .int (iI go), .int (iI (sl + 1))]), (ma, aM E 6 mq), (la, aI E 8 (up ld 6 ((ld 6) + 1))), (ad 0, oo 3 (fMa 0 .null (sd 0) (g 0))), (ad 1, oo 3 (fMa 1 (.ref (ad 0)) (sd 1) (g 1))), (ad 2, oo 3 (fMa 2 (.ref (ad 1)) (sd 2) (g 2))), (ad 3, oo 3 (fMa 3 (.ref (ad 2)) (sd 3) (g 3))), (ad 4, oo 3 (fMa 4 (.ref (ad 3)) (sd 4) (g 4))), (ad 5, oo 3 (fMa 5 (.ref (ad 4)) (sd 5) (g 5)))]) 2 dX1_layOnCause_84 rfl rfl (by decide) (by omega) (by omega) ?_
        refine g_goto (tgt := 113) dX1_layOnCause_85 rfl ?_
        exact g_vret hRet dX1_layOnCause_113 ⟨(sl + 1), (up ld 6 ((ld 6) + 1)), (by unfold sLay; rw [if_neg hst]; refine ⟨rfl, ?_⟩; rw [hcau]; first | rfl | (show _ = up ld (if _ then _ else _) (ld (if _ then _ else _) + 1); first | (rw [if_neg (by assumption), if_pos (by assumption)]; done) | (rw [if_neg (by assumption), if_neg (by assumption)]; rfl))), rfl⟩
      · refine g_aload_n 1 dX1_layOnCause_88 rfl rfl ?_
        refine g_get (v := .int (iI 5)) (C := RX3) (T := TX3) (N := 14) 8 0 (fun _ h => List.mem_cons_of_mem _ (List.mem_append_left _ (List.mem_append_right _ h))) (List.mem_of_getElem? (i := 5) rfl) rfl rfl (by decide) rfl rfl dX1_layOnCause_89 ?_
        refine g_iconst dX1_layOnCause_92 ?_
        refine g_iconst dX1_layOnCause_93 ?_
        refine g_callN_i (n := 3) (As := [.int (iI 5), .int (iI 0), .int (iI 5)]) (wr := [(v, oo 1 [.ref ma, .int (iI M), .ref fo, .ref la, .int (iI ti), .int (iI so), .int (iI ta), .int (iI go), .int (iI (sl + 1))]), (ma, aM E 6 mq), (la, aI E 8 ld), (ad 0, oo 3 (fMa 0 .null (sd 0) (g 0))), (ad 1, oo 3 (fMa 1 (.ref (ad 0)) (sd 1) (g 1))), (ad 2, oo 3 (fMa 2 (.ref (ad 1)) (sd 2) (g 2))), (ad 3, oo 3 (fMa 3 (.ref (ad 2)) (sd 3) (g 3))), (ad 4, oo 3 (fMa 4 (.ref (ad 3)) (sd 4) (g 4))), (ad 5, oo 3 (fMa 5 (.ref (ad 4)) (sd 5) (g 5)))]) [] (c_X6_within E 5 0 5 (by omega) (by omega) (by omega)) [] [0, 1, 2, 3, 4, 5, 6, 7, 8] gX1_layOnCause_X6_within_n130 (fun _ h => h.2.2.2.2.1) (List.mem_of_getElem? (i := 18) rfl) (List.mem_of_getElem? (i := 17) rfl) rfl (by decide +kernel) ⟨by decide, by decide⟩ rfl rfl rfl rfl rfl (by decide) rfl (by decide) (by decide) (fun _ h => absurd h List.not_mem_nil) dX1_layOnCause_94 rfl (Nat.le_of_ble_eq_true rfl) ⟨by decide, by decide⟩ (fun r u p_23 => ?_)
        obtain ⟨rfl, rfl⟩ := p_23
        refine g_perm (ws1 := [(v, oo 1 [.ref ma, .int (iI M), .ref fo, .ref la, .int (iI ti), .int (iI so), .int (iI ta), .int (iI go), .int (iI (sl + 1))]), (ma, aM E 6 mq), (la, aI E 8 ld), (ad 0, oo 3 (fMa 0 .null (sd 0) (g 0))), (ad 1, oo 3 (fMa 1 (.ref (ad 0)) (sd 1) (g 1))), (ad 2, oo 3 (fMa 2 (.ref (ad 1)) (sd 2) (g 2))), (ad 3, oo 3 (fMa 3 (.ref (ad 2)) (sd 3) (g 3))), (ad 4, oo 3 (fMa 4 (.ref (ad 3)) (sd 4) (g 4))), (ad 5, oo 3 (fMa 5 (.ref (ad 4)) (sd 5) (g 5)))]) [0, 1, 2, 3, 4, 5, 6, 7, 8] rfl (by decide) rfl ?_
        refine g_if_eq_b (tgt := 113) dX1_layOnCause_97 rfl (fun _ => ?_) (fun q => absurd (by decide) q)
        refine g_aload_n 0 dX1_layOnCause_100 rfl rfl ?_
        refine g_get (C := RX1) (T := TX1) (N := 9) 0 3 (fun _ h => List.mem_cons_of_mem _ (List.mem_append_right _ h)) (List.mem_of_getElem? (i := 4) rfl) rfl rfl (by decide) rfl rfl dX1_layOnCause_101 ?_
        refine g_aload_n 1 dX1_layOnCause_104 rfl rfl ?_
        refine g_get (v := .int (iI 5)) (C := RX3) (T := TX3) (N := 14) 8 0 (fun _ h => List.mem_cons_of_mem _ (List.mem_append_left _ (List.mem_append_right _ h))) (List.mem_of_getElem? (i := 5) rfl) rfl rfl (by decide) rfl rfl dX1_layOnCause_105 ?_
        refine g_dup2 dX1_layOnCause_108 rfl rfl ?_
        refine g_iald 2 dX1_layOnCause_109 rfl (by decide) (by omega) (by omega) ?_
        refine g_iconst dX1_layOnCause_110 ?_
        refine g_iadd dX1_layOnCause_111 ?_
        refine g_iast (ws1 := [(v, oo 1 [.ref ma, .int (iI M), .ref fo, .ref la, .int (iI ti), .int (iI so), .int (iI ta), .int (iI go), .int (iI (sl + 1))]), (ma, aM E 6 mq), (la, aI E 8 (up ld 5 ((ld 5) + 1))), (ad 0, oo 3 (fMa 0 .null (sd 0) (g 0))), (ad 1, oo 3 (fMa 1 (.ref (ad 0)) (sd 1) (g 1))), (ad 2, oo 3 (fMa 2 (.ref (ad 1)) (sd 2) (g 2))), (ad 3, oo 3 (fMa 3 (.ref (ad 2)) (sd 3) (g 3))), (ad 4, oo 3 (fMa 4 (.ref (ad 3)) (sd 4) (g 4))), (ad 5, oo 3 (fMa 5 (.ref (ad 4)) (sd 5) (g 5)))]) 2 dX1_layOnCause_112 rfl rfl (by decide) (by omega) (by omega) ?_
        exact g_vret hRet dX1_layOnCause_113 ⟨(sl + 1), (up ld 5 ((ld 5) + 1)), (by unfold sLay; rw [if_neg hst]; refine ⟨rfl, ?_⟩; rw [hcau]; first | rfl | (show _ = up ld (if _ then _ else _) (ld (if _ then _ else _) + 1); first | (rw [if_neg (by assumption), if_pos (by assumption)]; done) | (rw [if_neg (by assumption), if_neg (by assumption)]; rfl))), rfl⟩
  refine g_aload_n 0 dX1_layOnCause_0 rfl rfl ?_
  refine g_callV_q (n := 0) (As := []) (wr := [(la, aI E 8 ld), (ad 0, oo 3 (fMa 0 .null (sd 0) (g 0))), (ad 1, oo 3 (fMa 1 (.ref (ad 0)) (sd 1) (g 1))), (ad 2, oo 3 (fMa 2 (.ref (ad 1)) (sd 2) (g 2))), (ad 3, oo 3 (fMa 3 (.ref (ad 2)) (sd 3) (g 3))), (ad 4, oo 3 (fMa 4 (.ref (ad 3)) (sd 4) (g 4))), (ad 5, oo 3 (fMa 5 (.ref (ad 4)) (sd 5) (g 5)))]) (C := RX1) [] (c_X1_last E v ma fo la M ti so ta go sl mq ad (by omega) (by omega) (by omega) (by omega) (by exact hmq)) [0, 1] [2, 3, 4, 5, 6, 7, 8] 0 rfl rfl gX1_layOnCause_X1_last rfl ⟨rfl, by decide +kernel⟩ ⟨by decide, by decide⟩ rfl rfl rfl rfl rfl (by decide) rfl (by decide) (by decide) (fun _ h => absurd h List.not_mem_nil) dX1_layOnCause_1 rfl (Nat.le_of_ble_eq_true rfl) ⟨by decide, by decide⟩ (fun r u p_25 => ?_)
  obtain ⟨rfl, rfl⟩ := p_25
  refine g_perm (ws1 := [(v, oo 1 [.ref ma, .int (iI M), .ref fo, .ref la, .int (iI ti), .int (iI so), .int (iI ta), .int (iI go), .int (iI sl)]), (ma, aM E 6 mq), (la, aI E 8 ld), (ad 0, oo 3 (fMa 0 .null (sd 0) (g 0))), (ad 1, oo 3 (fMa 1 (.ref (ad 0)) (sd 1) (g 1))), (ad 2, oo 3 (fMa 2 (.ref (ad 1)) (sd 2) (g 2))), (ad 3, oo 3 (fMa 3 (.ref (ad 2)) (sd 3) (g 3))), (ad 4, oo 3 (fMa 4 (.ref (ad 3)) (sd 4) (g 4))), (ad 5, oo 3 (fMa 5 (.ref (ad 4)) (sd 5) (g 5)))]) [7, 8, 0, 1, 2, 3, 4, 5, 6] rfl (by decide) rfl ?_
  rcases (show M = 2 ∨ M = 3 ∨ M = 4 ∨ M = 5 ∨ M = 6 by omega) with hMk | hMk | hMk | hMk | hMk
  · refine g_as (st1 := [.ref (ad 1)]) ?_ rfl rfl (by rw [hMk]; rfl)
    refine g_astore_n (lv1 := [(1, .ref (ad 1)), (0, .ref v)]) dX1_layOnCause_4 rfl (by decide) rfl ?_
    refine g_aload_n 0 dX1_layOnCause_5 rfl rfl ?_
    refine g_ifnull dX1_layOnCause_6 ?_
    refine g_aload_n 0 dX1_layOnCause_9 rfl rfl ?_
    refine g_get (v := .int (iI ((g 1) 9))) (C := RX3) (T := TX3) (N := 14) 4 12 (fun _ h => List.mem_cons_of_mem _ (List.mem_append_left _ (List.mem_append_right _ h))) (List.mem_of_getElem? (i := 1) rfl) rfl rfl (by decide) rfl rfl dX1_layOnCause_10 ?_
    refine g_iconst dX1_layOnCause_13 ?_
    refine g_icmp_ne (tgt := 18) (by unfold R32; omega) (by unfold R32; omega) dX1_layOnCause_14 rfl (fun hs3 => ?_) (fun hs3 => ?_)
    · exact g_vret hRet dX1_layOnCause_17 ⟨sl, ld, (by unfold sLay; rw [if_pos (by rw [hMk]; exact hs3)]; exact ⟨rfl, rfl⟩), rfl⟩
    · refine g_aload_n 1 dX1_layOnCause_18 rfl rfl ?_
      refine g_dup dX1_layOnCause_19 rfl ?_
      refine g_get (C := RX1) (T := TX1) (N := 9) 0 8 (fun _ h => List.mem_cons_of_mem _ (List.mem_append_right _ h)) (List.mem_of_getElem? (i := 2) rfl) rfl rfl (by decide) rfl rfl dX1_layOnCause_20 ?_
      refine g_iconst dX1_layOnCause_23 ?_
      refine g_iadd dX1_layOnCause_24 ?_
      refine g_put (C := RX1) (T := TX1) (N := 9) (ws1 := [(v, oo 1 [.ref ma, .int (iI M), .ref fo, .ref la, .int (iI ti), .int (iI so), .int (iI ta), .int (iI go), .int (iI (sl + 1))]), (ma, aM E 6 mq), (la, aI E 8 ld), (ad 0, oo 3 (fMa 0 .null (sd 0) (g 0))), (ad 1, oo 3 (fMa 1 (.ref (ad 0)) (sd 1) (g 1))), (ad 2, oo 3 (fMa 2 (.ref (ad 1)) (sd 2) (g 2))), (ad 3, oo 3 (fMa 3 (.ref (ad 2)) (sd 3) (g 3))), (ad 4, oo 3 (fMa 4 (.ref (ad 3)) (sd 4) (g 4))), (ad 5, oo 3 (fMa 5 (.ref (ad 4)) (sd 5) (g 5)))]) 0 8 (fun _ h => List.mem_cons_of_mem _ (List.mem_append_right _ h)) tyX1 tyX1_ok nmX1 (List.mem_of_getElem? (i := 2) rfl) rfl rfl (by decide) rfl (tyX1_ok 8 (by decide)) rfl rfl (by first | decide | exact Nat.le_of_ble_eq_true rfl) dX1_layOnCause_25 rfl rfl ?_
      refine g_lv (lv1 := [(0, .ref v), (1, .ref (ad 1))]) [1, 0] rfl ?_
      exact K28_1  (by rw [show M.toNat = 2 by omega]) (by rw [hMk]; exact hs3)
  · refine g_as (st1 := [.ref (ad 2)]) ?_ rfl rfl (by rw [hMk]; rfl)
    refine g_astore_n (lv1 := [(1, .ref (ad 2)), (0, .ref v)]) dX1_layOnCause_4 rfl (by decide) rfl ?_
    refine g_aload_n 0 dX1_layOnCause_5 rfl rfl ?_
    refine g_ifnull dX1_layOnCause_6 ?_
    refine g_aload_n 0 dX1_layOnCause_9 rfl rfl ?_
    refine g_get (v := .int (iI ((g 2) 9))) (C := RX3) (T := TX3) (N := 14) 5 12 (fun _ h => List.mem_cons_of_mem _ (List.mem_append_left _ (List.mem_append_right _ h))) (List.mem_of_getElem? (i := 1) rfl) rfl rfl (by decide) rfl rfl dX1_layOnCause_10 ?_
    refine g_iconst dX1_layOnCause_13 ?_
    refine g_icmp_ne (tgt := 18) (by unfold R32; omega) (by unfold R32; omega) dX1_layOnCause_14 rfl (fun hs3 => ?_) (fun hs3 => ?_)
    · exact g_vret hRet dX1_layOnCause_17 ⟨sl, ld, (by unfold sLay; rw [if_pos (by rw [hMk]; exact hs3)]; exact ⟨rfl, rfl⟩), rfl⟩
    · refine g_aload_n 1 dX1_layOnCause_18 rfl rfl ?_
      refine g_dup dX1_layOnCause_19 rfl ?_
      refine g_get (C := RX1) (T := TX1) (N := 9) 0 8 (fun _ h => List.mem_cons_of_mem _ (List.mem_append_right _ h)) (List.mem_of_getElem? (i := 2) rfl) rfl rfl (by decide) rfl rfl dX1_layOnCause_20 ?_
      refine g_iconst dX1_layOnCause_23 ?_
      refine g_iadd dX1_layOnCause_24 ?_
      refine g_put (C := RX1) (T := TX1) (N := 9) (ws1 := [(v, oo 1 [.ref ma, .int (iI M), .ref fo, .ref la, .int (iI ti), .int (iI so), .int (iI ta), .int (iI go), .int (iI (sl + 1))]), (ma, aM E 6 mq), (la, aI E 8 ld), (ad 0, oo 3 (fMa 0 .null (sd 0) (g 0))), (ad 1, oo 3 (fMa 1 (.ref (ad 0)) (sd 1) (g 1))), (ad 2, oo 3 (fMa 2 (.ref (ad 1)) (sd 2) (g 2))), (ad 3, oo 3 (fMa 3 (.ref (ad 2)) (sd 3) (g 3))), (ad 4, oo 3 (fMa 4 (.ref (ad 3)) (sd 4) (g 4))), (ad 5, oo 3 (fMa 5 (.ref (ad 4)) (sd 5) (g 5)))]) 0 8 (fun _ h => List.mem_cons_of_mem _ (List.mem_append_right _ h)) tyX1 tyX1_ok nmX1 (List.mem_of_getElem? (i := 2) rfl) rfl rfl (by decide) rfl (tyX1_ok 8 (by decide)) rfl rfl (by first | decide | exact Nat.le_of_ble_eq_true rfl) dX1_layOnCause_25 rfl rfl ?_
      refine g_lv (lv1 := [(0, .ref v), (1, .ref (ad 2))]) [1, 0] rfl ?_
      exact K28_2  (by rw [show M.toNat = 3 by omega]) (by rw [hMk]; exact hs3)
  · refine g_as (st1 := [.ref (ad 3)]) ?_ rfl rfl (by rw [hMk]; rfl)
    refine g_astore_n (lv1 := [(1, .ref (ad 3)), (0, .ref v)]) dX1_layOnCause_4 rfl (by decide) rfl ?_
    refine g_aload_n 0 dX1_layOnCause_5 rfl rfl ?_
    refine g_ifnull dX1_layOnCause_6 ?_
    refine g_aload_n 0 dX1_layOnCause_9 rfl rfl ?_
    refine g_get (v := .int (iI ((g 3) 9))) (C := RX3) (T := TX3) (N := 14) 6 12 (fun _ h => List.mem_cons_of_mem _ (List.mem_append_left _ (List.mem_append_right _ h))) (List.mem_of_getElem? (i := 1) rfl) rfl rfl (by decide) rfl rfl dX1_layOnCause_10 ?_
    refine g_iconst dX1_layOnCause_13 ?_
    refine g_icmp_ne (tgt := 18) (by unfold R32; omega) (by unfold R32; omega) dX1_layOnCause_14 rfl (fun hs3 => ?_) (fun hs3 => ?_)
    · exact g_vret hRet dX1_layOnCause_17 ⟨sl, ld, (by unfold sLay; rw [if_pos (by rw [hMk]; exact hs3)]; exact ⟨rfl, rfl⟩), rfl⟩
    · refine g_aload_n 1 dX1_layOnCause_18 rfl rfl ?_
      refine g_dup dX1_layOnCause_19 rfl ?_
      refine g_get (C := RX1) (T := TX1) (N := 9) 0 8 (fun _ h => List.mem_cons_of_mem _ (List.mem_append_right _ h)) (List.mem_of_getElem? (i := 2) rfl) rfl rfl (by decide) rfl rfl dX1_layOnCause_20 ?_
      refine g_iconst dX1_layOnCause_23 ?_
      refine g_iadd dX1_layOnCause_24 ?_
      refine g_put (C := RX1) (T := TX1) (N := 9) (ws1 := [(v, oo 1 [.ref ma, .int (iI M), .ref fo, .ref la, .int (iI ti), .int (iI so), .int (iI ta), .int (iI go), .int (iI (sl + 1))]), (ma, aM E 6 mq), (la, aI E 8 ld), (ad 0, oo 3 (fMa 0 .null (sd 0) (g 0))), (ad 1, oo 3 (fMa 1 (.ref (ad 0)) (sd 1) (g 1))), (ad 2, oo 3 (fMa 2 (.ref (ad 1)) (sd 2) (g 2))), (ad 3, oo 3 (fMa 3 (.ref (ad 2)) (sd 3) (g 3))), (ad 4, oo 3 (fMa 4 (.ref (ad 3)) (sd 4) (g 4))), (ad 5, oo 3 (fMa 5 (.ref (ad 4)) (sd 5) (g 5)))]) 0 8 (fun _ h => List.mem_cons_of_mem _ (List.mem_append_right _ h)) tyX1 tyX1_ok nmX1 (List.mem_of_getElem? (i := 2) rfl) rfl rfl (by decide) rfl (tyX1_ok 8 (by decide)) rfl rfl (by first | decide | exact Nat.le_of_ble_eq_true rfl) dX1_layOnCause_25 rfl rfl ?_
      refine g_lv (lv1 := [(0, .ref v), (1, .ref (ad 3))]) [1, 0] rfl ?_
      exact K28_3  (by rw [show M.toNat = 4 by omega]) (by rw [hMk]; exact hs3)
  · refine g_as (st1 := [.ref (ad 4)]) ?_ rfl rfl (by rw [hMk]; rfl)
    refine g_astore_n (lv1 := [(1, .ref (ad 4)), (0, .ref v)]) dX1_layOnCause_4 rfl (by decide) rfl ?_
    refine g_aload_n 0 dX1_layOnCause_5 rfl rfl ?_
    refine g_ifnull dX1_layOnCause_6 ?_
    refine g_aload_n 0 dX1_layOnCause_9 rfl rfl ?_
    refine g_get (v := .int (iI ((g 4) 9))) (C := RX3) (T := TX3) (N := 14) 7 12 (fun _ h => List.mem_cons_of_mem _ (List.mem_append_left _ (List.mem_append_right _ h))) (List.mem_of_getElem? (i := 1) rfl) rfl rfl (by decide) rfl rfl dX1_layOnCause_10 ?_
    refine g_iconst dX1_layOnCause_13 ?_
    refine g_icmp_ne (tgt := 18) (by unfold R32; omega) (by unfold R32; omega) dX1_layOnCause_14 rfl (fun hs3 => ?_) (fun hs3 => ?_)
    · exact g_vret hRet dX1_layOnCause_17 ⟨sl, ld, (by unfold sLay; rw [if_pos (by rw [hMk]; exact hs3)]; exact ⟨rfl, rfl⟩), rfl⟩
    · refine g_aload_n 1 dX1_layOnCause_18 rfl rfl ?_
      refine g_dup dX1_layOnCause_19 rfl ?_
      refine g_get (C := RX1) (T := TX1) (N := 9) 0 8 (fun _ h => List.mem_cons_of_mem _ (List.mem_append_right _ h)) (List.mem_of_getElem? (i := 2) rfl) rfl rfl (by decide) rfl rfl dX1_layOnCause_20 ?_
      refine g_iconst dX1_layOnCause_23 ?_
      refine g_iadd dX1_layOnCause_24 ?_
      refine g_put (C := RX1) (T := TX1) (N := 9) (ws1 := [(v, oo 1 [.ref ma, .int (iI M), .ref fo, .ref la, .int (iI ti), .int (iI so), .int (iI ta), .int (iI go), .int (iI (sl + 1))]), (ma, aM E 6 mq), (la, aI E 8 ld), (ad 0, oo 3 (fMa 0 .null (sd 0) (g 0))), (ad 1, oo 3 (fMa 1 (.ref (ad 0)) (sd 1) (g 1))), (ad 2, oo 3 (fMa 2 (.ref (ad 1)) (sd 2) (g 2))), (ad 3, oo 3 (fMa 3 (.ref (ad 2)) (sd 3) (g 3))), (ad 4, oo 3 (fMa 4 (.ref (ad 3)) (sd 4) (g 4))), (ad 5, oo 3 (fMa 5 (.ref (ad 4)) (sd 5) (g 5)))]) 0 8 (fun _ h => List.mem_cons_of_mem _ (List.mem_append_right _ h)) tyX1 tyX1_ok nmX1 (List.mem_of_getElem? (i := 2) rfl) rfl rfl (by decide) rfl (tyX1_ok 8 (by decide)) rfl rfl (by first | decide | exact Nat.le_of_ble_eq_true rfl) dX1_layOnCause_25 rfl rfl ?_
      refine g_lv (lv1 := [(0, .ref v), (1, .ref (ad 4))]) [1, 0] rfl ?_
      exact K28_4  (by rw [show M.toNat = 5 by omega]) (by rw [hMk]; exact hs3)
  · refine g_as (st1 := [.ref (ad 5)]) ?_ rfl rfl (by rw [hMk]; rfl)
    refine g_astore_n (lv1 := [(1, .ref (ad 5)), (0, .ref v)]) dX1_layOnCause_4 rfl (by decide) rfl ?_
    refine g_aload_n 0 dX1_layOnCause_5 rfl rfl ?_
    refine g_ifnull dX1_layOnCause_6 ?_
    refine g_aload_n 0 dX1_layOnCause_9 rfl rfl ?_
    refine g_get (v := .int (iI ((g 5) 9))) (C := RX3) (T := TX3) (N := 14) 8 12 (fun _ h => List.mem_cons_of_mem _ (List.mem_append_left _ (List.mem_append_right _ h))) (List.mem_of_getElem? (i := 1) rfl) rfl rfl (by decide) rfl rfl dX1_layOnCause_10 ?_
    refine g_iconst dX1_layOnCause_13 ?_
    refine g_icmp_ne (tgt := 18) (by unfold R32; omega) (by unfold R32; omega) dX1_layOnCause_14 rfl (fun hs3 => ?_) (fun hs3 => ?_)
    · exact g_vret hRet dX1_layOnCause_17 ⟨sl, ld, (by unfold sLay; rw [if_pos (by rw [hMk]; exact hs3)]; exact ⟨rfl, rfl⟩), rfl⟩
    · refine g_aload_n 1 dX1_layOnCause_18 rfl rfl ?_
      refine g_dup dX1_layOnCause_19 rfl ?_
      refine g_get (C := RX1) (T := TX1) (N := 9) 0 8 (fun _ h => List.mem_cons_of_mem _ (List.mem_append_right _ h)) (List.mem_of_getElem? (i := 2) rfl) rfl rfl (by decide) rfl rfl dX1_layOnCause_20 ?_
      refine g_iconst dX1_layOnCause_23 ?_
      refine g_iadd dX1_layOnCause_24 ?_
      refine g_put (C := RX1) (T := TX1) (N := 9) (ws1 := [(v, oo 1 [.ref ma, .int (iI M), .ref fo, .ref la, .int (iI ti), .int (iI so), .int (iI ta), .int (iI go), .int (iI (sl + 1))]), (ma, aM E 6 mq), (la, aI E 8 ld), (ad 0, oo 3 (fMa 0 .null (sd 0) (g 0))), (ad 1, oo 3 (fMa 1 (.ref (ad 0)) (sd 1) (g 1))), (ad 2, oo 3 (fMa 2 (.ref (ad 1)) (sd 2) (g 2))), (ad 3, oo 3 (fMa 3 (.ref (ad 2)) (sd 3) (g 3))), (ad 4, oo 3 (fMa 4 (.ref (ad 3)) (sd 4) (g 4))), (ad 5, oo 3 (fMa 5 (.ref (ad 4)) (sd 5) (g 5)))]) 0 8 (fun _ h => List.mem_cons_of_mem _ (List.mem_append_right _ h)) tyX1 tyX1_ok nmX1 (List.mem_of_getElem? (i := 2) rfl) rfl rfl (by decide) rfl (tyX1_ok 8 (by decide)) rfl rfl (by first | decide | exact Nat.le_of_ble_eq_true rfl) dX1_layOnCause_25 rfl rfl ?_
      refine g_lv (lv1 := [(0, .ref v), (1, .ref (ad 5))]) [1, 0] rfl ?_
      exact K28_5  (by rw [show M.toNat = 6 by omega]) (by rw [hMk]; exact hs3)

def finM (x : Int) (c : Int → Int) : Int → Int := if x = 3 then up (up c 9 x) 10 (c 10 + 1) else up c 9 x
def gapM (c : Int → Int) (tk : Int) : Int → Int := up c 0 (if tk = 0 then c 0 else c 0 - 1)
/-- one tick's way through the machines k - 1 .. 0 -/
def sPass (F : Int → Bool) (M ti : Int) (S : Int → Int → Int) : Nat → (Int → Int → Int) → Int → Int → Int → (Int → Int → Int) → Int → Int → Int → Prop
  | 0, g, so, ta, go, g', so', ta', go' => g' = g ∧ so' = so ∧ ta' = ta ∧ go' = go
  | k + 1, g, so, ta, go, g', so', ta', go' => ∃ (x : Int) (c' : Int → Int) (tk gd : Int), sStep (F (k : Int)) (k : Int) M ti (if (k : Int) = 0 then so else g ((k : Int) - 1) 0) (S (k : Int)) (g (k : Int)) x c' tk gd ∧
      sPass F M ti S k (if (k : Int) = 0 then ug g (k : Int) (finM x c') else ug (ug g (k : Int) (finM x c')) ((k : Int) - 1) (gapM (g ((k : Int) - 1)) tk)) (if (k : Int) = 0 then (if tk = 0 then so else so - 1) else so) (if (k : Int) = 0 then (if tk = 0 then ta else ta + 1) else ta) (if gd = 0 then go else go + 1) g' so' ta' go'
theorem up_up7 (d : Int → Int) : True := trivial
theorem sEnd_ok {n M ti t : Int} {s d c' : Int → Int} {gd : Int} (h : sEnd n M ti s d c' gd) (hd : mOk d) (h1 : d 7 ≤ t) (h2 : d 8 ≤ 10000) (h3 : 0 ≤ ti) (h4 : ti ≤ t) (ht : t < 10000) (h5 : d 2 = 0) : (kOk (t + 1) c') ∧ (gd = 0 ∨ gd = 1) := by
  unfold sEnd at h
  unfold mOk at hd
  unfold kOk mOk
  (repeat' split at h) <;> obtain ⟨rfl, rfl⟩ := h <;> simp [up] <;> (try split) <;> omega
theorem sStep_ok {flt : Bool} {n M ti av t : Int} {s c : Int → Int} {x : Int} {c' : Int → Int} {tk gd : Int} (h : sStep flt n M ti av s c x c' tk gd) (hc : kOk t c) (hs : sOk s) (h3 : 0 ≤ ti) (h4 : ti ≤ t) (ht : t < 10000) (hav : 0 ≤ av) : kOk (t + 1) (finM x c') ∧ (gd = 0 ∨ gd = 1) ∧ (tk = 0 ∨ (tk = 1 ∧ 0 < av)) ∧ 0 ≤ x ∧ x ≤ 4 := by
  have key : ∀ (c' : Int → Int), kOk (t + 1) c' → 0 ≤ x → x ≤ 4 → kOk (t + 1) (finM x c') := by
    intro c' h0 h1 h2
    unfold kOk mOk at *
    unfold finM
    split <;> simp [up] <;> omega
  have hw : kOk t c → kOk (t + 1) c := by intro q; unfold kOk at *; exact ⟨q.1, by omega, by omega, by omega, by omega, by omega⟩
  unfold sStep at h
  (repeat' split at h)
  · obtain ⟨rfl, rfl, rfl, rfl⟩ := h; exact ⟨key _ (hw hc) (by omega) (by omega), by omega, by omega, by omega, by omega⟩
  · obtain ⟨rfl, rfl, rfl, rfl⟩ := h; exact ⟨key _ (hw hc) (by omega) (by omega), by omega, by omega, by omega, by omega⟩
  · obtain ⟨rfl, rfl, rfl, rfl⟩ := h; exact ⟨key _ (hw hc) (by omega) (by omega), by omega, by omega, by omega, by omega⟩
  · obtain ⟨rfl, rfl, rfl, rfl⟩ := h
    have g := mOk_give hc.1 (fun q => by unfold sOk at hs; unfold kOk at hc; omega)
    refine ⟨key _ ?_ (by omega) (by omega), by omega, by omega, by omega, by omega⟩
    unfold kOk at *
    refine ⟨g, ?_⟩
    rw [give1_2, give1_o c 1 (by omega) (by omega), give1_o c 3 (by omega) (by omega), give1_o c 7 (by omega) (by omega), give1_o c 8 (by omega) (by omega)]
    omega
  all_goals
    obtain ⟨rfl, ht2, hf⟩ := h
    have g := mOk_work hc.1 (fun q => by unfold sOk at hs; unfold kOk at hc; omega) (by unfold kOk at hc; omega)
    have e2 : work1 c 2 = 0 := by rw [work1_o c 2 (by omega) (by omega), give1_2]
    have e7 : work1 c 7 = c 7 := by rw [work1_o c 7 (by omega) (by omega), give1_o c 7 (by omega) (by omega)]
    have e8 : work1 c 8 = c 8 := by rw [work1_o c 8 (by omega) (by omega), give1_o c 8 (by omega) (by omega)]
    have e1 := work1_1 c
    have e3 := work1_3 c
    have e0 : 0 ≤ c 1 ∧ c 1 ≤ 1 := hc.1.2.1
    unfold sFin at hf
    split at hf
    · obtain ⟨rfl, rfl⟩ := hf
      refine ⟨key _ ?_ (by omega) (by omega), by omega, by (first | omega | (split at ht2 <;> omega)), by omega, by omega⟩
      unfold kOk sOk at *
      refine ⟨g, by omega, by omega, by omega, by split at e1 <;> omega, by omega⟩
    · have hk := sEnd_ok (t := t) hf g (by unfold kOk at hc; omega) (by unfold kOk at hc; omega) h3 h4 ht e2
      exact ⟨key _ hk.1 (by omega) (by omega), hk.2, by (first | omega | (split at ht2 <;> omega)), by omega, by omega⟩

theorem sPass_s {F : Int → Bool} {M ti : Int} {S : Int → Int → Int} (k : Nat) {g : Int → Int → Int} {so ta go : Int} {g' : Int → Int → Int} {so' ta' go' : Int} (h : ∃ (x : Int) (c' : Int → Int) (tk gd : Int), sStep (F (k : Int)) (k : Int) M ti (if (k : Int) = 0 then so else g ((k : Int) - 1) 0) (S (k : Int)) (g (k : Int)) x c' tk gd ∧
      sPass F M ti S k (if (k : Int) = 0 then ug g (k : Int) (finM x c') else ug (ug g (k : Int) (finM x c')) ((k : Int) - 1) (gapM (g ((k : Int) - 1)) tk)) (if (k : Int) = 0 then (if tk = 0 then so else so - 1) else so) (if (k : Int) = 0 then (if tk = 0 then ta else ta + 1) else ta) (if gd = 0 then go else go + 1) g' so' ta' go') : sPass F M ti S (k + 1) g so ta go g' so' ta' go' := h
theorem sStep_gd {flt : Bool} {n M ti av : Int} {s c : Int → Int} {x : Int} {c' : Int → Int} {tk gd : Int} (h : sStep flt n M ti av s c x c' tk gd) : gd = 0 ∨ (n = M - 1 ∧ gd = 1) := by
  unfold sStep sFin sEnd at h
  (repeat' split at h) <;> omega
theorem gap_ok {t tk : Int} {c : Int → Int} (h : kOk t c) (hk : tk = 0 ∨ (tk = 1 ∧ 0 < c 0)) : kOk t (gapM c tk) := by
  unfold kOk mOk at *
  unfold gapM
  rcases hk with rfl | ⟨rfl, hk⟩ <;> simp [up] <;> omega
theorem kOk_w {t : Int} {c : Int → Int} (h : kOk t c) : kOk (t + 1) c := by
  unfold kOk at *
  exact ⟨h.1, by omega, by omega, by omega, by omega, by omega⟩

set_option maxHeartbeats 4000000 in
set_option maxRecDepth 100000 in
theorem c_X1_step (E : Ev) (v : Nat) (ma : Nat) (fo : Nat) (la : Nat) (M : Int) (ti : Int) (so : Int) (ta : Int) (go : Int) (sl : Int) (mq : Int → Option Nat) (ad : Int → Nat) (sd : Int → Nat) (g : Int → Int → Int) (ld : Int → Int) (S : Int → Int → Int) (f1 : Nat) (f2 : Nat) (f3 : Nat) (nf : Int) (fm : Int → Int) (fa : Int → Int) (fb : Int → Int) (hM : 2 ≤ M ∧ M ≤ 6) (hti : 0 ≤ ti ∧ ti ≤ 10000) (hso : 0 ≤ so ∧ so ≤ 100000) (hgo : 0 ≤ go ∧ go ≤ 20000) (hti2 : ti ≤ 9999) (hgo2 : go ≤ ti) (hmq : ∀ k, 0 ≤ k → k < 6 → mq k = some (ad k)) (hgk : ∀ j, 0 ≤ j → j < 6 → kOk ti (g j)) (hS : ∀ j, 0 ≤ j → j < 6 → sOk (S j)) (hnf : 0 ≤ nf ∧ nf ≤ 8) (hfm : ∀ k, 0 ≤ fm k ∧ fm k ≤ 5) (hfa : ∀ k, 0 ≤ fa k ∧ fa k ≤ 9999) (hfb : ∀ k, 0 ≤ fb k ∧ fb k ≤ 9999) : MI yX1_step wsX1_step ({ frames := 4, cells := 0, slots := 0, locals := 84 } : Room) E [] 0 0 [.ref v] [(v, oo 1 [.ref ma, .int (iI M), .ref fo, .ref la, .int (iI ti), .int (iI so), .int (iI ta), .int (iI go), .int (iI sl)]), (ma, aM E 6 mq), (fo, oo 2 [.ref f1, .ref f2, .ref f3, .int (iI nf)]), (f1, aI E 8 fm), (f2, aI E 8 fa), (f3, aI E 8 fb), (la, aI E 8 ld), (ad 0, oo 3 (fMa 0 .null (sd 0) (g 0))), (sd 0, aI E 4 (S 0)), (ad 1, oo 3 (fMa 1 (.ref (ad 0)) (sd 1) (g 1))), (sd 1, aI E 4 (S 1)), (ad 2, oo 3 (fMa 2 (.ref (ad 1)) (sd 2) (g 2))), (sd 2, aI E 4 (S 2)), (ad 3, oo 3 (fMa 3 (.ref (ad 2)) (sd 3) (g 3))), (sd 3, aI E 4 (S 3)), (ad 4, oo 3 (fMa 4 (.ref (ad 3)) (sd 4) (g 4))), (sd 4, aI E 4 (S 4)), (ad 5, oo 3 (fMa 5 (.ref (ad 4)) (sd 5) (g 5))), (sd 5, aI E 4 (S 5))] (fun r u => ∃ (g' : Int → Int → Int), ∃ (so' : Int), ∃ (ta' : Int), ∃ (go' : Int), ∃ (sl' : Int), ∃ (ld' : Int → Int), sPass (fun k => fl fm fa fb k ti nf) M ti S M.toNat g so ta go g' so' ta' go' ∧ sLay M g' sl ld sl' ld' ∧ ((∀ j, 0 ≤ j → j < 6 → kOk (ti + 1) (g' j)) ∧ 0 ≤ so' ∧ so' ≤ 100000 ∧ 0 ≤ go' ∧ go' ≤ ti + 1) ∧ r = iI (bI (¬ go' = go)) ∧ u = [(v, oo 1 [.ref ma, .int (iI M), .ref fo, .ref la, .int (iI (ti + 1)), .int (iI so'), .int (iI ta'), .int (iI go'), .int (iI sl')]), (ma, aM E 6 mq), (fo, oo 2 [.ref f1, .ref f2, .ref f3, .int (iI nf)]), (f1, aI E 8 fm), (f2, aI E 8 fa), (f3, aI E 8 fb), (la, aI E 8 ld'), (ad 0, oo 3 (fMa 0 .null (sd 0) (g' 0))), (sd 0, aI E 4 (S 0)), (ad 1, oo 3 (fMa 1 (.ref (ad 0)) (sd 1) (g' 1))), (sd 1, aI E 4 (S 1)), (ad 2, oo 3 (fMa 2 (.ref (ad 1)) (sd 2) (g' 2))), (sd 2, aI E 4 (S 2)), (ad 3, oo 3 (fMa 3 (.ref (ad 2)) (sd 3) (g' 3))), (sd 3, aI E 4 (S 3)), (ad 4, oo 3 (fMa 4 (.ref (ad 3)) (sd 4) (g' 4))), (sd 4, aI E 4 (S 4)), (ad 5, oo 3 (fMa 5 (.ref (ad 4)) (sd 5) (g' 5))), (sd 5, aI E 4 (S 5))]) := by
  refine MI.of (cc := cX1_step) (maxL := 3) (own := RX1) (by decide) rfl rfl rfl (Nat.le_of_ble_eq_true rfl) [(0, .ref v)] rfl ?_
  intro X hin2 hRet
  have K10_N : ∀ (g1 : Int → Int → Int) (so1 : Int) (ta1 : Int) (go1 : Int) (hK : ∀ g' so' ta' go', sPass (fun k => fl fm fa fb k ti nf) M ti S 0 g1 so1 ta1 go1 g' so' ta' go' → sPass (fun k => fl fm fa fb k ti nf) M ti S M.toNat g so ta go g' so' ta' go') (hA : ∀ j, 0 ≤ j → j ≤ -1 → kOk ti (g1 j)) (hB : ∀ j, -1 < j → j < 6 → kOk (ti + 1) (g1 j)) (hso1 : 0 ≤ so1 ∧ so1 ≤ 100000) (hgo1 : 0 ≤ go1 ∧ (go1 ≤ ti ∨ (-1 < M - 1 ∧ go1 ≤ ti + 1))), G X ({ frames := 4, cells := 0, slots := 0, locals := 84 } : Room) cX1_step 3 RX1 wsX1_step E [] 0 0 [(v, oo 1 [.ref ma, .int (iI M), .ref fo, .ref la, .int (iI ti), .int (iI so1), .int (iI ta1), .int (iI go1), .int (iI sl)]), (ma, aM E 6 mq), (fo, oo 2 [.ref f1, .ref f2, .ref f3, .int (iI nf)]), (f1, aI E 8 fm), (f2, aI E 8 fa), (f3, aI E 8 fb), (la, aI E 8 ld), (ad 0, oo 3 (fMa 0 .null (sd 0) (g1 0))), (sd 0, aI E 4 (S 0)), (ad 1, oo 3 (fMa 1 (.ref (ad 0)) (sd 1) (g1 1))), (sd 1, aI E 4 (S 1)), (ad 2, oo 3 (fMa 2 (.ref (ad 1)) (sd 2) (g1 2))), (sd 2, aI E 4 (S 2)), (ad 3, oo 3 (fMa 3 (.ref (ad 2)) (sd 3) (g1 3))), (sd 3, aI E 4 (S 3)), (ad 4, oo 3 (fMa 4 (.ref (ad 3)) (sd 4) (g1 4))), (sd 4, aI E 4 (S 4)), (ad 5, oo 3 (fMa 5 (.ref (ad 4)) (sd 5) (g1 5))), (sd 5, aI E 4 (S 5))] [(0, .ref v), (1, .int (iI go)), (2, .null)] 10 [] := by
    intro g1 so1 ta1 go1 hK hA hB hso1 hgo1
    refine g_aload_nN 2 dX1_step_10 rfl rfl ?_
    refine g_ifnullN (tgt := 49) dX1_step_11 rfl ?_
    refine g_aload_n 0 dX1_step_49 rfl rfl ?_
    refine g_callV_v (n := 0) (As := []) (wr := [(fo, oo 2 [.ref f1, .ref f2, .ref f3, .int (iI nf)]), (f1, aI E 8 fm), (f2, aI E 8 fa), (f3, aI E 8 fb), (sd 0, aI E 4 (S 0)), (sd 1, aI E 4 (S 1)), (sd 2, aI E 4 (S 2)), (sd 3, aI E 4 (S 3)), (sd 4, aI E 4 (S 4)), (sd 5, aI E 4 (S 5))]) (C := RX1) [] (c_X1_layOnCause E v ma fo la M ti so1 ta1 go1 sl mq ad sd g1 ld (by omega) (by omega) (by omega) (by omega) (by exact hmq) (by intro j j0 j1; exact (hB j (by omega) j1).1)) [0, 1, 6, 7, 9, 11, 13, 15, 17] [2, 3, 4, 5, 8, 10, 12, 14, 16, 18] 0 rfl rfl gX1_step_X1_layOnCause rfl ⟨rfl, by decide +kernel⟩ ⟨by decide, by decide⟩ rfl rfl rfl rfl rfl (by decide) rfl (by decide) (by decide) (fun _ h => absurd h List.not_mem_nil) dX1_step_50 rfl (Nat.le_of_ble_eq_true rfl) ⟨by decide, by decide⟩ (fun u p_1 => ?_)
    obtain ⟨sl_2, ld_3, flay, rfl⟩ := p_1
    refine g_perm (ws1 := [(v, oo 1 [.ref ma, .int (iI M), .ref fo, .ref la, .int (iI ti), .int (iI so1), .int (iI ta1), .int (iI go1), .int (iI sl_2)]), (ma, aM E 6 mq), (fo, oo 2 [.ref f1, .ref f2, .ref f3, .int (iI nf)]), (f1, aI E 8 fm), (f2, aI E 8 fa), (f3, aI E 8 fb), (la, aI E 8 ld_3), (ad 0, oo 3 (fMa 0 .null (sd 0) (g1 0))), (sd 0, aI E 4 (S 0)), (ad 1, oo 3 (fMa 1 (.ref (ad 0)) (sd 1) (g1 1))), (sd 1, aI E 4 (S 1)), (ad 2, oo 3 (fMa 2 (.ref (ad 1)) (sd 2) (g1 2))), (sd 2, aI E 4 (S 2)), (ad 3, oo 3 (fMa 3 (.ref (ad 2)) (sd 3) (g1 3))), (sd 3, aI E 4 (S 3)), (ad 4, oo 3 (fMa 4 (.ref (ad 3)) (sd 4) (g1 4))), (sd 4, aI E 4 (S 4)), (ad 5, oo 3 (fMa 5 (.ref (ad 4)) (sd 5) (g1 5))), (sd 5, aI E 4 (S 5))]) [10, 11, 0, 1, 2, 3, 12, 13, 4, 14, 5, 15, 6, 16, 7, 17, 8, 18, 9] rfl (by decide) rfl ?_
    refine g_aload_n 0 dX1_step_53 rfl rfl ?_
    refine g_dup dX1_step_54 rfl ?_
    refine g_get (C := RX1) (T := TX1) (N := 9) 0 4 (fun _ h => List.mem_cons_of_mem _ (List.mem_append_left _ (List.mem_append_left _ (List.mem_append_right _ h)))) (List.mem_of_getElem? (i := 5) rfl) rfl rfl (by decide) rfl rfl dX1_step_55 ?_
    refine g_iconst dX1_step_58 ?_
    refine g_iadd dX1_step_59 ?_
    refine g_put (C := RX1) (T := TX1) (N := 9) (ws1 := [(v, oo 1 [.ref ma, .int (iI M), .ref fo, .ref la, .int (iI (ti + 1)), .int (iI so1), .int (iI ta1), .int (iI go1), .int (iI sl_2)]), (ma, aM E 6 mq), (fo, oo 2 [.ref f1, .ref f2, .ref f3, .int (iI nf)]), (f1, aI E 8 fm), (f2, aI E 8 fa), (f3, aI E 8 fb), (la, aI E 8 ld_3), (ad 0, oo 3 (fMa 0 .null (sd 0) (g1 0))), (sd 0, aI E 4 (S 0)), (ad 1, oo 3 (fMa 1 (.ref (ad 0)) (sd 1) (g1 1))), (sd 1, aI E 4 (S 1)), (ad 2, oo 3 (fMa 2 (.ref (ad 1)) (sd 2) (g1 2))), (sd 2, aI E 4 (S 2)), (ad 3, oo 3 (fMa 3 (.ref (ad 2)) (sd 3) (g1 3))), (sd 3, aI E 4 (S 3)), (ad 4, oo 3 (fMa 4 (.ref (ad 3)) (sd 4) (g1 4))), (sd 4, aI E 4 (S 4)), (ad 5, oo 3 (fMa 5 (.ref (ad 4)) (sd 5) (g1 5))), (sd 5, aI E 4 (S 5))]) 0 4 (fun _ h => List.mem_cons_of_mem _ (List.mem_append_left _ (List.mem_append_left _ (List.mem_append_right _ h)))) tyX1 tyX1_ok nmX1 (List.mem_of_getElem? (i := 5) rfl) rfl rfl (by decide) rfl (tyX1_ok 4 (by decide)) rfl rfl (by first | decide | exact Nat.le_of_ble_eq_true rfl) dX1_step_60 rfl rfl ?_
    refine g_aload_n 0 dX1_step_63 rfl rfl ?_
    refine g_get (C := RX1) (T := TX1) (N := 9) 0 7 (fun _ h => List.mem_cons_of_mem _ (List.mem_append_left _ (List.mem_append_left _ (List.mem_append_right _ h)))) (List.mem_of_getElem? (i := 1) rfl) rfl rfl (by decide) rfl rfl dX1_step_64 ?_
    refine g_iload_n 1 dX1_step_67 rfl rfl ?_
    refine g_icmp_eq (tgt := 75) (by unfold R32; omega) (by unfold R32; omega) dX1_step_68 rfl (fun c_4 => ?_) (fun c_4 => ?_)
    · refine g_iconst dX1_step_75 ?_
      exact g_iret hRet dX1_step_76 rfl ⟨g1, so1, ta1, go1, sl_2, ld_3, (by exact hK _ _ _ _ ⟨rfl, rfl, rfl, rfl⟩), (by exact flay), (by exact ⟨fun j j0 j1 => hB j (by omega) j1, by omega, by omega, by omega, by omega⟩), (bI_f (by omega)), rfl⟩
    · refine g_iconst dX1_step_71 ?_
      refine g_goto (tgt := 76) dX1_step_72 rfl ?_
      exact g_iret hRet dX1_step_76 rfl ⟨g1, so1, ta1, go1, sl_2, ld_3, (by exact hK _ _ _ _ ⟨rfl, rfl, rfl, rfl⟩), (by exact flay), (by exact ⟨fun j j0 j1 => hB j (by omega) j1, by omega, by omega, by omega, by omega⟩), (bI_t (by omega)), rfl⟩
  have K10_0 : ∀ (g1 : Int → Int → Int) (so1 : Int) (ta1 : Int) (go1 : Int) (hK : ∀ g' so' ta' go', sPass (fun k => fl fm fa fb k ti nf) M ti S 1 g1 so1 ta1 go1 g' so' ta' go' → sPass (fun k => fl fm fa fb k ti nf) M ti S M.toNat g so ta go g' so' ta' go') (hA : ∀ j, 0 ≤ j → j ≤ 0 → kOk ti (g1 j)) (hB : ∀ j, 0 < j → j < 6 → kOk (ti + 1) (g1 j)) (hso1 : 0 ≤ so1 ∧ so1 ≤ 100000) (hgo1 : 0 ≤ go1 ∧ (go1 ≤ ti ∨ (0 < M - 1 ∧ go1 ≤ ti + 1))), G X ({ frames := 4, cells := 0, slots := 0, locals := 84 } : Room) cX1_step 3 RX1 wsX1_step E [] 0 0 [(v, oo 1 [.ref ma, .int (iI M), .ref fo, .ref la, .int (iI ti), .int (iI so1), .int (iI ta1), .int (iI go1), .int (iI sl)]), (ma, aM E 6 mq), (fo, oo 2 [.ref f1, .ref f2, .ref f3, .int (iI nf)]), (f1, aI E 8 fm), (f2, aI E 8 fa), (f3, aI E 8 fb), (la, aI E 8 ld), (ad 0, oo 3 (fMa 0 .null (sd 0) (g1 0))), (sd 0, aI E 4 (S 0)), (ad 1, oo 3 (fMa 1 (.ref (ad 0)) (sd 1) (g1 1))), (sd 1, aI E 4 (S 1)), (ad 2, oo 3 (fMa 2 (.ref (ad 1)) (sd 2) (g1 2))), (sd 2, aI E 4 (S 2)), (ad 3, oo 3 (fMa 3 (.ref (ad 2)) (sd 3) (g1 3))), (sd 3, aI E 4 (S 3)), (ad 4, oo 3 (fMa 4 (.ref (ad 3)) (sd 4) (g1 4))), (sd 4, aI E 4 (S 4)), (ad 5, oo 3 (fMa 5 (.ref (ad 4)) (sd 5) (g1 5))), (sd 5, aI E 4 (S 5))] [(0, .ref v), (1, .int (iI go)), (2, .ref (ad 0))] 10 [] := by
    intro g1 so1 ta1 go1 hK hA hB hso1 hgo1
    refine g_aload_n 2 dX1_step_10 rfl rfl ?_
    refine g_ifnull dX1_step_11 ?_
    refine g_aload_n 2 dX1_step_14 rfl rfl ?_
    refine g_aload_n 0 dX1_step_15 rfl rfl ?_
    refine g_aload_n 2 dX1_step_16 rfl rfl ?_
    refine g_callV_i (n := 1) (As := [.ref (ad 0)]) (wr := [(ma, aM E 6 mq), (la, aI E 8 ld), (ad 1, oo 3 (fMa 1 (.ref (ad 0)) (sd 1) (g1 1))), (sd 1, aI E 4 (S 1)), (ad 2, oo 3 (fMa 2 (.ref (ad 1)) (sd 2) (g1 2))), (sd 2, aI E 4 (S 2)), (ad 3, oo 3 (fMa 3 (.ref (ad 2)) (sd 3) (g1 3))), (sd 3, aI E 4 (S 3)), (ad 4, oo 3 (fMa 4 (.ref (ad 3)) (sd 4) (g1 4))), (sd 4, aI E 4 (S 4)), (ad 5, oo 3 (fMa 5 (.ref (ad 4)) (sd 5) (g1 5))), (sd 5, aI E 4 (S 5))]) (C := RX1) [.ref (ad 0)] (c_step_s E v ma fo la M ti so1 ta1 go1 sl (ad 0) (sd 0) 0 (g1 0) (S 0) f1 f2 f3 nf fm fa fb (by omega) (by omega) (by omega) (by omega) (by exact (hA 0 (by omega) (by omega)).1) (by exact (hA 0 (by omega) (by omega)).2.1) (by exact hS 0 (by omega) (by omega)) (by omega) (by omega) (by assumption) (by assumption) (by assumption)) [0, 7, 8, 2, 3, 4, 5] [1, 6, 9, 10, 11, 12, 13, 14, 15, 16, 17, 18] 0 rfl rfl gX1_step_X1_stepOf rfl ⟨rfl, by decide +kernel⟩ ⟨by decide, by decide⟩ rfl rfl rfl rfl rfl (by decide) rfl (by decide) (by decide) (fun _ h => absurd h List.not_mem_nil) dX1_step_17 rfl (Nat.le_of_ble_eq_true rfl) ⟨by decide, by decide⟩ (fun r u p_5 => ?_)
    obtain ⟨x, cc, tk, gd, fst, rfl, rfl⟩ := p_5
    refine g_perm (ws1 := [(v, oo 1 [.ref ma, .int (iI M), .ref fo, .ref la, .int (iI ti), .int (iI (if tk = 0 then so1 else so1 - 1)), .int (iI (if tk = 0 then ta1 else ta1 + 1)), .int (iI (if gd = 0 then go1 else go1 + 1)), .int (iI sl)]), (ma, aM E 6 mq), (fo, oo 2 [.ref f1, .ref f2, .ref f3, .int (iI nf)]), (f1, aI E 8 fm), (f2, aI E 8 fa), (f3, aI E 8 fb), (la, aI E 8 ld), (ad 0, oo 3 (fMa 0 .null (sd 0) cc)), (sd 0, aI E 4 (S 0)), (ad 1, oo 3 (fMa 1 (.ref (ad 0)) (sd 1) (g1 1))), (sd 1, aI E 4 (S 1)), (ad 2, oo 3 (fMa 2 (.ref (ad 1)) (sd 2) (g1 2))), (sd 2, aI E 4 (S 2)), (ad 3, oo 3 (fMa 3 (.ref (ad 2)) (sd 3) (g1 3))), (sd 3, aI E 4 (S 3)), (ad 4, oo 3 (fMa 4 (.ref (ad 3)) (sd 4) (g1 4))), (sd 4, aI E 4 (S 4)), (ad 5, oo 3 (fMa 5 (.ref (ad 4)) (sd 5) (g1 5))), (sd 5, aI E 4 (S 5))]) [12, 0, 15, 16, 17, 18, 1, 13, 14, 2, 3, 4, 5, 6, 7, 8, 9, 10, 11] rfl (by decide) rfl ?_
    have hok := sStep_ok (t := ti) fst (hA 0 (by omega) (by omega)) (hS 0 (by omega) (by omega)) (by omega) (by omega) (by omega) (by omega)
    have hgd := sStep_gd fst
    refine g_put (C := RX3) (T := TX3) (N := 14) (ws1 := [(v, oo 1 [.ref ma, .int (iI M), .ref fo, .ref la, .int (iI ti), .int (iI (if tk = 0 then so1 else so1 - 1)), .int (iI (if tk = 0 then ta1 else ta1 + 1)), .int (iI (if gd = 0 then go1 else go1 + 1)), .int (iI sl)]), (ma, aM E 6 mq), (fo, oo 2 [.ref f1, .ref f2, .ref f3, .int (iI nf)]), (f1, aI E 8 fm), (f2, aI E 8 fa), (f3, aI E 8 fb), (la, aI E 8 ld), (ad 0, oo 3 (fMa 0 .null (sd 0) (up cc 9 x))), (sd 0, aI E 4 (S 0)), (ad 1, oo 3 (fMa 1 (.ref (ad 0)) (sd 1) (g1 1))), (sd 1, aI E 4 (S 1)), (ad 2, oo 3 (fMa 2 (.ref (ad 1)) (sd 2) (g1 2))), (sd 2, aI E 4 (S 2)), (ad 3, oo 3 (fMa 3 (.ref (ad 2)) (sd 3) (g1 3))), (sd 3, aI E 4 (S 3)), (ad 4, oo 3 (fMa 4 (.ref (ad 3)) (sd 4) (g1 4))), (sd 4, aI E 4 (S 4)), (ad 5, oo 3 (fMa 5 (.ref (ad 4)) (sd 5) (g1 5))), (sd 5, aI E 4 (S 5))]) 7 12 (fun _ h => List.mem_cons_of_mem _ (List.mem_append_left _ (List.mem_append_right _ h))) tyX3 tyX3_ok nmX3 (List.mem_of_getElem? (i := 2) rfl) rfl rfl (by decide) rfl (tyX3_ok 12 (by decide)) rfl rfl (by first | decide | exact Nat.le_of_ble_eq_true rfl) dX1_step_20 rfl rfl ?_
    refine g_aload_n 2 dX1_step_23 rfl rfl ?_
    refine g_get (v := .int (iI x)) (C := RX3) (T := TX3) (N := 14) 7 12 (fun _ h => List.mem_cons_of_mem _ (List.mem_append_left _ (List.mem_append_right _ h))) (List.mem_of_getElem? (i := 2) rfl) rfl rfl (by decide) rfl rfl dX1_step_24 ?_
    refine g_iconst dX1_step_27 ?_
    refine g_icmp_ne (tgt := 41) (by unfold R32; omega) (by unfold R32; omega) dX1_step_28 rfl (fun hx3 => ?_) (fun hx3 => ?_)
    · refine g_aload_n 2 dX1_step_31 rfl rfl ?_
      refine g_dup dX1_step_32 rfl ?_
      refine g_get (v := .int (iI (cc 10))) (C := RX3) (T := TX3) (N := 14) 7 13 (fun _ h => List.mem_cons_of_mem _ (List.mem_append_left _ (List.mem_append_right _ h))) (List.mem_of_getElem? (i := 3) rfl) rfl rfl (by decide) rfl rfl dX1_step_33 ?_
      refine g_iconst dX1_step_36 ?_
      refine g_iadd dX1_step_37 ?_
      refine g_put (C := RX3) (T := TX3) (N := 14) (ws1 := [(v, oo 1 [.ref ma, .int (iI M), .ref fo, .ref la, .int (iI ti), .int (iI (if tk = 0 then so1 else so1 - 1)), .int (iI (if tk = 0 then ta1 else ta1 + 1)), .int (iI (if gd = 0 then go1 else go1 + 1)), .int (iI sl)]), (ma, aM E 6 mq), (fo, oo 2 [.ref f1, .ref f2, .ref f3, .int (iI nf)]), (f1, aI E 8 fm), (f2, aI E 8 fa), (f3, aI E 8 fb), (la, aI E 8 ld), (ad 0, oo 3 (fMa 0 .null (sd 0) (up (up cc 9 x) 10 ((cc 10) + 1)))), (sd 0, aI E 4 (S 0)), (ad 1, oo 3 (fMa 1 (.ref (ad 0)) (sd 1) (g1 1))), (sd 1, aI E 4 (S 1)), (ad 2, oo 3 (fMa 2 (.ref (ad 1)) (sd 2) (g1 2))), (sd 2, aI E 4 (S 2)), (ad 3, oo 3 (fMa 3 (.ref (ad 2)) (sd 3) (g1 3))), (sd 3, aI E 4 (S 3)), (ad 4, oo 3 (fMa 4 (.ref (ad 3)) (sd 4) (g1 4))), (sd 4, aI E 4 (S 4)), (ad 5, oo 3 (fMa 5 (.ref (ad 4)) (sd 5) (g1 5))), (sd 5, aI E 4 (S 5))]) 7 13 (fun _ h => List.mem_cons_of_mem _ (List.mem_append_left _ (List.mem_append_right _ h))) tyX3 tyX3_ok nmX3 (List.mem_of_getElem? (i := 3) rfl) rfl rfl (by decide) rfl (tyX3_ok 13 (by decide)) rfl rfl (by first | decide | exact Nat.le_of_ble_eq_true rfl) dX1_step_38 rfl rfl ?_
      have hF_6 : finM x cc = up (up cc 9 x) 10 ((cc 10) + 1) := by unfold finM; first | (rw [if_pos (by assumption)]; done) | (rw [if_neg (by assumption)]; done)
      refine g_as (ws1 := [(v, oo 1 [.ref ma, .int (iI M), .ref fo, .ref la, .int (iI ti), .int (iI (if tk = 0 then so1 else so1 - 1)), .int (iI (if tk = 0 then ta1 else ta1 + 1)), .int (iI (if gd = 0 then go1 else go1 + 1)), .int (iI sl)]), (ma, aM E 6 mq), (fo, oo 2 [.ref f1, .ref f2, .ref f3, .int (iI nf)]), (f1, aI E 8 fm), (f2, aI E 8 fa), (f3, aI E 8 fb), (la, aI E 8 ld), (ad 0, oo 3 (fMa 0 .null (sd 0) (finM x cc))), (sd 0, aI E 4 (S 0)), (ad 1, oo 3 (fMa 1 (.ref (ad 0)) (sd 1) (g1 1))), (sd 1, aI E 4 (S 1)), (ad 2, oo 3 (fMa 2 (.ref (ad 1)) (sd 2) (g1 2))), (sd 2, aI E 4 (S 2)), (ad 3, oo 3 (fMa 3 (.ref (ad 2)) (sd 3) (g1 3))), (sd 3, aI E 4 (S 3)), (ad 4, oo 3 (fMa 4 (.ref (ad 3)) (sd 4) (g1 4))), (sd 4, aI E 4 (S 4)), (ad 5, oo 3 (fMa 5 (.ref (ad 4)) (sd 5) (g1 5))), (sd 5, aI E 4 (S 5))]) ?_ (by rw [hF_6]) rfl rfl
      refine g_aload_n 2 dX1_step_41 rfl rfl ?_
      refine g_get (v := .null) (C := RX3) (T := TX3) (N := 14) 7 1 (fun _ h => List.mem_cons_of_mem _ (List.mem_append_left _ (List.mem_append_right _ h))) (List.mem_of_getElem? (i := 4) rfl) rfl rfl (by decide) rfl rfl dX1_step_42 ?_
      refine g_astore_nN (lv1 := [(2, .null), (0, .ref v), (1, .int (iI go))]) dX1_step_45 rfl (by decide) rfl ?_
      refine g_goto (tgt := 10) dX1_step_46 rfl ?_
      refine g_lv (lv1 := [(0, .ref v), (1, .int (iI go)), (2, .null)]) [1, 2, 0] rfl ?_
      exact K10_N (ug g1 0 (finM x cc)) (if tk = 0 then so1 else so1 - 1) (if tk = 0 then ta1 else ta1 + 1) (if gd = 0 then go1 else go1 + 1) (by intro g' so' ta' go' h; exact hK _ _ _ _ (sPass_s 0 ⟨x, cc, tk, gd, fst, h⟩)) (by intro j j0 j1; omega) (by intro j j0 j1; unfold ug; by_cases e : j = 0; (rw [if_pos e]; exact hok.1); rw [if_neg e]; exact hB j (by omega) j1) (by first | omega | (split <;> omega)) (by first | omega | (split <;> omega))
    · have hF_7 : finM x cc = up cc 9 x := by unfold finM; first | (rw [if_pos (by assumption)]; done) | (rw [if_neg (by assumption)]; done)
      refine g_as (ws1 := [(v, oo 1 [.ref ma, .int (iI M), .ref fo, .ref la, .int (iI ti), .int (iI (if tk = 0 then so1 else so1 - 1)), .int (iI (if tk = 0 then ta1 else ta1 + 1)), .int (iI (if gd = 0 then go1 else go1 + 1)), .int (iI sl)]), (ma, aM E 6 mq), (fo, oo 2 [.ref f1, .ref f2, .ref f3, .int (iI nf)]), (f1, aI E 8 fm), (f2, aI E 8 fa), (f3, aI E 8 fb), (la, aI E 8 ld), (ad 0, oo 3 (fMa 0 .null (sd 0) (finM x cc))), (sd 0, aI E 4 (S 0)), (ad 1, oo 3 (fMa 1 (.ref (ad 0)) (sd 1) (g1 1))), (sd 1, aI E 4 (S 1)), (ad 2, oo 3 (fMa 2 (.ref (ad 1)) (sd 2) (g1 2))), (sd 2, aI E 4 (S 2)), (ad 3, oo 3 (fMa 3 (.ref (ad 2)) (sd 3) (g1 3))), (sd 3, aI E 4 (S 3)), (ad 4, oo 3 (fMa 4 (.ref (ad 3)) (sd 4) (g1 4))), (sd 4, aI E 4 (S 4)), (ad 5, oo 3 (fMa 5 (.ref (ad 4)) (sd 5) (g1 5))), (sd 5, aI E 4 (S 5))]) ?_ (by rw [hF_7]) rfl rfl
      refine g_aload_n 2 dX1_step_41 rfl rfl ?_
      refine g_get (v := .null) (C := RX3) (T := TX3) (N := 14) 7 1 (fun _ h => List.mem_cons_of_mem _ (List.mem_append_left _ (List.mem_append_right _ h))) (List.mem_of_getElem? (i := 4) rfl) rfl rfl (by decide) rfl rfl dX1_step_42 ?_
      refine g_astore_nN (lv1 := [(2, .null), (0, .ref v), (1, .int (iI go))]) dX1_step_45 rfl (by decide) rfl ?_
      refine g_goto (tgt := 10) dX1_step_46 rfl ?_
      refine g_lv (lv1 := [(0, .ref v), (1, .int (iI go)), (2, .null)]) [1, 2, 0] rfl ?_
      exact K10_N (ug g1 0 (finM x cc)) (if tk = 0 then so1 else so1 - 1) (if tk = 0 then ta1 else ta1 + 1) (if gd = 0 then go1 else go1 + 1) (by intro g' so' ta' go' h; exact hK _ _ _ _ (sPass_s 0 ⟨x, cc, tk, gd, fst, h⟩)) (by intro j j0 j1; omega) (by intro j j0 j1; unfold ug; by_cases e : j = 0; (rw [if_pos e]; exact hok.1); rw [if_neg e]; exact hB j (by omega) j1) (by first | omega | (split <;> omega)) (by first | omega | (split <;> omega))
  have K10_1 : ∀ (g1 : Int → Int → Int) (so1 : Int) (ta1 : Int) (go1 : Int) (hK : ∀ g' so' ta' go', sPass (fun k => fl fm fa fb k ti nf) M ti S 2 g1 so1 ta1 go1 g' so' ta' go' → sPass (fun k => fl fm fa fb k ti nf) M ti S M.toNat g so ta go g' so' ta' go') (hA : ∀ j, 0 ≤ j → j ≤ 1 → kOk ti (g1 j)) (hB : ∀ j, 1 < j → j < 6 → kOk (ti + 1) (g1 j)) (hso1 : 0 ≤ so1 ∧ so1 ≤ 100000) (hgo1 : 0 ≤ go1 ∧ (go1 ≤ ti ∨ (1 < M - 1 ∧ go1 ≤ ti + 1))), G X ({ frames := 4, cells := 0, slots := 0, locals := 84 } : Room) cX1_step 3 RX1 wsX1_step E [] 0 0 [(v, oo 1 [.ref ma, .int (iI M), .ref fo, .ref la, .int (iI ti), .int (iI so1), .int (iI ta1), .int (iI go1), .int (iI sl)]), (ma, aM E 6 mq), (fo, oo 2 [.ref f1, .ref f2, .ref f3, .int (iI nf)]), (f1, aI E 8 fm), (f2, aI E 8 fa), (f3, aI E 8 fb), (la, aI E 8 ld), (ad 0, oo 3 (fMa 0 .null (sd 0) (g1 0))), (sd 0, aI E 4 (S 0)), (ad 1, oo 3 (fMa 1 (.ref (ad 0)) (sd 1) (g1 1))), (sd 1, aI E 4 (S 1)), (ad 2, oo 3 (fMa 2 (.ref (ad 1)) (sd 2) (g1 2))), (sd 2, aI E 4 (S 2)), (ad 3, oo 3 (fMa 3 (.ref (ad 2)) (sd 3) (g1 3))), (sd 3, aI E 4 (S 3)), (ad 4, oo 3 (fMa 4 (.ref (ad 3)) (sd 4) (g1 4))), (sd 4, aI E 4 (S 4)), (ad 5, oo 3 (fMa 5 (.ref (ad 4)) (sd 5) (g1 5))), (sd 5, aI E 4 (S 5))] [(0, .ref v), (1, .int (iI go)), (2, .ref (ad 1))] 10 [] := by
    intro g1 so1 ta1 go1 hK hA hB hso1 hgo1
    refine g_aload_n 2 dX1_step_10 rfl rfl ?_
    refine g_ifnull dX1_step_11 ?_
    refine g_aload_n 2 dX1_step_14 rfl rfl ?_
    refine g_aload_n 0 dX1_step_15 rfl rfl ?_
    refine g_aload_n 2 dX1_step_16 rfl rfl ?_
    refine g_callV_i (n := 1) (As := [.ref (ad 1)]) (wr := [(ma, aM E 6 mq), (la, aI E 8 ld), (sd 0, aI E 4 (S 0)), (ad 2, oo 3 (fMa 2 (.ref (ad 1)) (sd 2) (g1 2))), (sd 2, aI E 4 (S 2)), (ad 3, oo 3 (fMa 3 (.ref (ad 2)) (sd 3) (g1 3))), (sd 3, aI E 4 (S 3)), (ad 4, oo 3 (fMa 4 (.ref (ad 3)) (sd 4) (g1 4))), (sd 4, aI E 4 (S 4)), (ad 5, oo 3 (fMa 5 (.ref (ad 4)) (sd 5) (g1 5))), (sd 5, aI E 4 (S 5))]) (C := RX1) [.ref (ad 1)] (c_step_a E v ma fo la M ti so1 ta1 go1 sl (ad 1) (sd 1) 1 (g1 1) (ad 0) (sd 0) 0 .null (g1 0) (S 1) f1 f2 f3 nf fm fa fb (by omega) (by omega) (by omega) (by omega) (by exact (hA 1 (by omega) (by omega)).1) (by exact (hA 1 (by omega) (by omega)).2.1) (by exact hS 1 (by omega) (by omega)) (by omega) (by exact (hA 0 (by omega) (by omega)).1) (by omega) (by assumption) (by assumption) (by assumption)) [0, 9, 7, 10, 2, 3, 4, 5] [1, 6, 8, 11, 12, 13, 14, 15, 16, 17, 18] 0 rfl rfl gX1_step_X1_stepOf rfl ⟨rfl, by decide +kernel⟩ ⟨by decide, by decide⟩ rfl rfl rfl rfl rfl (by decide) rfl (by decide) (by decide) (fun _ h => absurd h List.not_mem_nil) dX1_step_17 rfl (Nat.le_of_ble_eq_true rfl) ⟨by decide, by decide⟩ (fun r u p_8 => ?_)
    obtain ⟨x, cc, tk, gd, fst, rfl, rfl⟩ := p_8
    refine g_perm (ws1 := [(v, oo 1 [.ref ma, .int (iI M), .ref fo, .ref la, .int (iI ti), .int (iI so1), .int (iI ta1), .int (iI (if gd = 0 then go1 else go1 + 1)), .int (iI sl)]), (ma, aM E 6 mq), (fo, oo 2 [.ref f1, .ref f2, .ref f3, .int (iI nf)]), (f1, aI E 8 fm), (f2, aI E 8 fa), (f3, aI E 8 fb), (la, aI E 8 ld), (ad 0, oo 3 (fMa 0 .null (sd 0) (up (g1 0) 0 (if tk = 0 then (g1 0) 0 else (g1 0) 0 - 1)))), (sd 0, aI E 4 (S 0)), (ad 1, oo 3 (fMa 1 (.ref (ad 0)) (sd 1) cc)), (sd 1, aI E 4 (S 1)), (ad 2, oo 3 (fMa 2 (.ref (ad 1)) (sd 2) (g1 2))), (sd 2, aI E 4 (S 2)), (ad 3, oo 3 (fMa 3 (.ref (ad 2)) (sd 3) (g1 3))), (sd 3, aI E 4 (S 3)), (ad 4, oo 3 (fMa 4 (.ref (ad 3)) (sd 4) (g1 4))), (sd 4, aI E 4 (S 4)), (ad 5, oo 3 (fMa 5 (.ref (ad 4)) (sd 5) (g1 5))), (sd 5, aI E 4 (S 5))]) [11, 0, 15, 16, 17, 18, 1, 13, 2, 12, 14, 3, 4, 5, 6, 7, 8, 9, 10] rfl (by decide) rfl ?_
    have hok := sStep_ok (t := ti) fst (hA 1 (by omega) (by omega)) (hS 1 (by omega) (by omega)) (by omega) (by omega) (by omega) (by have q9 := (hA 0 (by omega) (by omega)).1; unfold mOk at q9; omega)
    have hgd := sStep_gd fst
    refine g_put (C := RX3) (T := TX3) (N := 14) (ws1 := [(v, oo 1 [.ref ma, .int (iI M), .ref fo, .ref la, .int (iI ti), .int (iI so1), .int (iI ta1), .int (iI (if gd = 0 then go1 else go1 + 1)), .int (iI sl)]), (ma, aM E 6 mq), (fo, oo 2 [.ref f1, .ref f2, .ref f3, .int (iI nf)]), (f1, aI E 8 fm), (f2, aI E 8 fa), (f3, aI E 8 fb), (la, aI E 8 ld), (ad 0, oo 3 (fMa 0 .null (sd 0) (up (g1 0) 0 (if tk = 0 then (g1 0) 0 else (g1 0) 0 - 1)))), (sd 0, aI E 4 (S 0)), (ad 1, oo 3 (fMa 1 (.ref (ad 0)) (sd 1) (up cc 9 x))), (sd 1, aI E 4 (S 1)), (ad 2, oo 3 (fMa 2 (.ref (ad 1)) (sd 2) (g1 2))), (sd 2, aI E 4 (S 2)), (ad 3, oo 3 (fMa 3 (.ref (ad 2)) (sd 3) (g1 3))), (sd 3, aI E 4 (S 3)), (ad 4, oo 3 (fMa 4 (.ref (ad 3)) (sd 4) (g1 4))), (sd 4, aI E 4 (S 4)), (ad 5, oo 3 (fMa 5 (.ref (ad 4)) (sd 5) (g1 5))), (sd 5, aI E 4 (S 5))]) 9 12 (fun _ h => List.mem_cons_of_mem _ (List.mem_append_left _ (List.mem_append_right _ h))) tyX3 tyX3_ok nmX3 (List.mem_of_getElem? (i := 2) rfl) rfl rfl (by decide) rfl (tyX3_ok 12 (by decide)) rfl rfl (by first | decide | exact Nat.le_of_ble_eq_true rfl) dX1_step_20 rfl rfl ?_
    refine g_aload_n 2 dX1_step_23 rfl rfl ?_
    refine g_get (v := .int (iI x)) (C := RX3) (T := TX3) (N := 14) 9 12 (fun _ h => List.mem_cons_of_mem _ (List.mem_append_left _ (List.mem_append_right _ h))) (List.mem_of_getElem? (i := 2) rfl) rfl rfl (by decide) rfl rfl dX1_step_24 ?_
    refine g_iconst dX1_step_27 ?_
    refine g_icmp_ne (tgt := 41) (by unfold R32; omega) (by unfold R32; omega) dX1_step_28 rfl (fun hx3 => ?_) (fun hx3 => ?_)
    · refine g_aload_n 2 dX1_step_31 rfl rfl ?_
      refine g_dup dX1_step_32 rfl ?_
      refine g_get (v := .int (iI (cc 10))) (C := RX3) (T := TX3) (N := 14) 9 13 (fun _ h => List.mem_cons_of_mem _ (List.mem_append_left _ (List.mem_append_right _ h))) (List.mem_of_getElem? (i := 3) rfl) rfl rfl (by decide) rfl rfl dX1_step_33 ?_
      refine g_iconst dX1_step_36 ?_
      refine g_iadd dX1_step_37 ?_
      refine g_put (C := RX3) (T := TX3) (N := 14) (ws1 := [(v, oo 1 [.ref ma, .int (iI M), .ref fo, .ref la, .int (iI ti), .int (iI so1), .int (iI ta1), .int (iI (if gd = 0 then go1 else go1 + 1)), .int (iI sl)]), (ma, aM E 6 mq), (fo, oo 2 [.ref f1, .ref f2, .ref f3, .int (iI nf)]), (f1, aI E 8 fm), (f2, aI E 8 fa), (f3, aI E 8 fb), (la, aI E 8 ld), (ad 0, oo 3 (fMa 0 .null (sd 0) (up (g1 0) 0 (if tk = 0 then (g1 0) 0 else (g1 0) 0 - 1)))), (sd 0, aI E 4 (S 0)), (ad 1, oo 3 (fMa 1 (.ref (ad 0)) (sd 1) (up (up cc 9 x) 10 ((cc 10) + 1)))), (sd 1, aI E 4 (S 1)), (ad 2, oo 3 (fMa 2 (.ref (ad 1)) (sd 2) (g1 2))), (sd 2, aI E 4 (S 2)), (ad 3, oo 3 (fMa 3 (.ref (ad 2)) (sd 3) (g1 3))), (sd 3, aI E 4 (S 3)), (ad 4, oo 3 (fMa 4 (.ref (ad 3)) (sd 4) (g1 4))), (sd 4, aI E 4 (S 4)), (ad 5, oo 3 (fMa 5 (.ref (ad 4)) (sd 5) (g1 5))), (sd 5, aI E 4 (S 5))]) 9 13 (fun _ h => List.mem_cons_of_mem _ (List.mem_append_left _ (List.mem_append_right _ h))) tyX3 tyX3_ok nmX3 (List.mem_of_getElem? (i := 3) rfl) rfl rfl (by decide) rfl (tyX3_ok 13 (by decide)) rfl rfl (by first | decide | exact Nat.le_of_ble_eq_true rfl) dX1_step_38 rfl rfl ?_
      have hF_9 : finM x cc = up (up cc 9 x) 10 ((cc 10) + 1) := by unfold finM; first | (rw [if_pos (by assumption)]; done) | (rw [if_neg (by assumption)]; done)
      refine g_as (ws1 := [(v, oo 1 [.ref ma, .int (iI M), .ref fo, .ref la, .int (iI ti), .int (iI so1), .int (iI ta1), .int (iI (if gd = 0 then go1 else go1 + 1)), .int (iI sl)]), (ma, aM E 6 mq), (fo, oo 2 [.ref f1, .ref f2, .ref f3, .int (iI nf)]), (f1, aI E 8 fm), (f2, aI E 8 fa), (f3, aI E 8 fb), (la, aI E 8 ld), (ad 0, oo 3 (fMa 0 .null (sd 0) (up (g1 0) 0 (if tk = 0 then (g1 0) 0 else (g1 0) 0 - 1)))), (sd 0, aI E 4 (S 0)), (ad 1, oo 3 (fMa 1 (.ref (ad 0)) (sd 1) (finM x cc))), (sd 1, aI E 4 (S 1)), (ad 2, oo 3 (fMa 2 (.ref (ad 1)) (sd 2) (g1 2))), (sd 2, aI E 4 (S 2)), (ad 3, oo 3 (fMa 3 (.ref (ad 2)) (sd 3) (g1 3))), (sd 3, aI E 4 (S 3)), (ad 4, oo 3 (fMa 4 (.ref (ad 3)) (sd 4) (g1 4))), (sd 4, aI E 4 (S 4)), (ad 5, oo 3 (fMa 5 (.ref (ad 4)) (sd 5) (g1 5))), (sd 5, aI E 4 (S 5))]) ?_ (by rw [hF_9]) rfl rfl
      refine g_aload_n 2 dX1_step_41 rfl rfl ?_
      refine g_get (v := .ref (ad 0)) (C := RX3) (T := TX3) (N := 14) 9 1 (fun _ h => List.mem_cons_of_mem _ (List.mem_append_left _ (List.mem_append_right _ h))) (List.mem_of_getElem? (i := 4) rfl) rfl rfl (by decide) rfl rfl dX1_step_42 ?_
      refine g_astore_n (lv1 := [(2, .ref (ad 0)), (0, .ref v), (1, .int (iI go))]) dX1_step_45 rfl (by decide) rfl ?_
      refine g_goto (tgt := 10) dX1_step_46 rfl ?_
      refine g_lv (lv1 := [(0, .ref v), (1, .int (iI go)), (2, .ref (ad 0))]) [1, 2, 0] rfl ?_
      exact K10_0 (ug (ug g1 1 (finM x cc)) 0 (gapM (g1 0) tk)) so1 ta1 (if gd = 0 then go1 else go1 + 1) (by intro g' so' ta' go' h; exact hK _ _ _ _ (sPass_s 1 ⟨x, cc, tk, gd, fst, h⟩)) (by intro j j0 j1; unfold ug; by_cases e : j = 0; (rw [if_pos e]; exact gap_ok (hA 0 (by omega) (by omega)) hok.2.2.1); rw [if_neg e, if_neg (by omega)]; exact hA j j0 (by omega)) (by intro j j0 j1; unfold ug; rw [if_neg (show ¬ j = 0 by omega)]; by_cases e : j = 1; (rw [if_pos e]; exact hok.1); rw [if_neg e]; exact hB j (by omega) j1) (by first | omega | (split <;> omega)) (by first | omega | (split <;> omega))
    · have hF_10 : finM x cc = up cc 9 x := by unfold finM; first | (rw [if_pos (by assumption)]; done) | (rw [if_neg (by assumption)]; done)
      refine g_as (ws1 := [(v, oo 1 [.ref ma, .int (iI M), .ref fo, .ref la, .int (iI ti), .int (iI so1), .int (iI ta1), .int (iI (if gd = 0 then go1 else go1 + 1)), .int (iI sl)]), (ma, aM E 6 mq), (fo, oo 2 [.ref f1, .ref f2, .ref f3, .int (iI nf)]), (f1, aI E 8 fm), (f2, aI E 8 fa), (f3, aI E 8 fb), (la, aI E 8 ld), (ad 0, oo 3 (fMa 0 .null (sd 0) (up (g1 0) 0 (if tk = 0 then (g1 0) 0 else (g1 0) 0 - 1)))), (sd 0, aI E 4 (S 0)), (ad 1, oo 3 (fMa 1 (.ref (ad 0)) (sd 1) (finM x cc))), (sd 1, aI E 4 (S 1)), (ad 2, oo 3 (fMa 2 (.ref (ad 1)) (sd 2) (g1 2))), (sd 2, aI E 4 (S 2)), (ad 3, oo 3 (fMa 3 (.ref (ad 2)) (sd 3) (g1 3))), (sd 3, aI E 4 (S 3)), (ad 4, oo 3 (fMa 4 (.ref (ad 3)) (sd 4) (g1 4))), (sd 4, aI E 4 (S 4)), (ad 5, oo 3 (fMa 5 (.ref (ad 4)) (sd 5) (g1 5))), (sd 5, aI E 4 (S 5))]) ?_ (by rw [hF_10]) rfl rfl
      refine g_aload_n 2 dX1_step_41 rfl rfl ?_
      refine g_get (v := .ref (ad 0)) (C := RX3) (T := TX3) (N := 14) 9 1 (fun _ h => List.mem_cons_of_mem _ (List.mem_append_left _ (List.mem_append_right _ h))) (List.mem_of_getElem? (i := 4) rfl) rfl rfl (by decide) rfl rfl dX1_step_42 ?_
      refine g_astore_n (lv1 := [(2, .ref (ad 0)), (0, .ref v), (1, .int (iI go))]) dX1_step_45 rfl (by decide) rfl ?_
      refine g_goto (tgt := 10) dX1_step_46 rfl ?_
      refine g_lv (lv1 := [(0, .ref v), (1, .int (iI go)), (2, .ref (ad 0))]) [1, 2, 0] rfl ?_
      exact K10_0 (ug (ug g1 1 (finM x cc)) 0 (gapM (g1 0) tk)) so1 ta1 (if gd = 0 then go1 else go1 + 1) (by intro g' so' ta' go' h; exact hK _ _ _ _ (sPass_s 1 ⟨x, cc, tk, gd, fst, h⟩)) (by intro j j0 j1; unfold ug; by_cases e : j = 0; (rw [if_pos e]; exact gap_ok (hA 0 (by omega) (by omega)) hok.2.2.1); rw [if_neg e, if_neg (by omega)]; exact hA j j0 (by omega)) (by intro j j0 j1; unfold ug; rw [if_neg (show ¬ j = 0 by omega)]; by_cases e : j = 1; (rw [if_pos e]; exact hok.1); rw [if_neg e]; exact hB j (by omega) j1) (by first | omega | (split <;> omega)) (by first | omega | (split <;> omega))
  have K10_2 : ∀ (g1 : Int → Int → Int) (so1 : Int) (ta1 : Int) (go1 : Int) (hK : ∀ g' so' ta' go', sPass (fun k => fl fm fa fb k ti nf) M ti S 3 g1 so1 ta1 go1 g' so' ta' go' → sPass (fun k => fl fm fa fb k ti nf) M ti S M.toNat g so ta go g' so' ta' go') (hA : ∀ j, 0 ≤ j → j ≤ 2 → kOk ti (g1 j)) (hB : ∀ j, 2 < j → j < 6 → kOk (ti + 1) (g1 j)) (hso1 : 0 ≤ so1 ∧ so1 ≤ 100000) (hgo1 : 0 ≤ go1 ∧ (go1 ≤ ti ∨ (2 < M - 1 ∧ go1 ≤ ti + 1))), G X ({ frames := 4, cells := 0, slots := 0, locals := 84 } : Room) cX1_step 3 RX1 wsX1_step E [] 0 0 [(v, oo 1 [.ref ma, .int (iI M), .ref fo, .ref la, .int (iI ti), .int (iI so1), .int (iI ta1), .int (iI go1), .int (iI sl)]), (ma, aM E 6 mq), (fo, oo 2 [.ref f1, .ref f2, .ref f3, .int (iI nf)]), (f1, aI E 8 fm), (f2, aI E 8 fa), (f3, aI E 8 fb), (la, aI E 8 ld), (ad 0, oo 3 (fMa 0 .null (sd 0) (g1 0))), (sd 0, aI E 4 (S 0)), (ad 1, oo 3 (fMa 1 (.ref (ad 0)) (sd 1) (g1 1))), (sd 1, aI E 4 (S 1)), (ad 2, oo 3 (fMa 2 (.ref (ad 1)) (sd 2) (g1 2))), (sd 2, aI E 4 (S 2)), (ad 3, oo 3 (fMa 3 (.ref (ad 2)) (sd 3) (g1 3))), (sd 3, aI E 4 (S 3)), (ad 4, oo 3 (fMa 4 (.ref (ad 3)) (sd 4) (g1 4))), (sd 4, aI E 4 (S 4)), (ad 5, oo 3 (fMa 5 (.ref (ad 4)) (sd 5) (g1 5))), (sd 5, aI E 4 (S 5))] [(0, .ref v), (1, .int (iI go)), (2, .ref (ad 2))] 10 [] := by
    intro g1 so1 ta1 go1 hK hA hB hso1 hgo1
    refine g_aload_n 2 dX1_step_10 rfl rfl ?_
    refine g_ifnull dX1_step_11 ?_
    refine g_aload_n 2 dX1_step_14 rfl rfl ?_
    refine g_aload_n 0 dX1_step_15 rfl rfl ?_
    refine g_aload_n 2 dX1_step_16 rfl rfl ?_
    refine g_callV_i (n := 1) (As := [.ref (ad 2)]) (wr := [(ma, aM E 6 mq), (la, aI E 8 ld), (ad 0, oo 3 (fMa 0 .null (sd 0) (g1 0))), (sd 0, aI E 4 (S 0)), (sd 1, aI E 4 (S 1)), (ad 3, oo 3 (fMa 3 (.ref (ad 2)) (sd 3) (g1 3))), (sd 3, aI E 4 (S 3)), (ad 4, oo 3 (fMa 4 (.ref (ad 3)) (sd 4) (g1 4))), (sd 4, aI E 4 (S 4)), (ad 5, oo 3 (fMa 5 (.ref (ad 4)) (sd 5) (g1 5))), (sd 5, aI E 4 (S 5))]) (C := RX1) [.ref (ad 2)] (c_step_a E v ma fo la M ti so1 ta1 go1 sl (ad 2) (sd 2) 2 (g1 2) (ad 1) (sd 1) 1 (.ref (ad 0)) (g1 1) (S 2) f1 f2 f3 nf fm fa fb (by omega) (by omega) (by omega) (by omega) (by exact (hA 2 (by omega) (by omega)).1) (by exact (hA 2 (by omega) (by omega)).2.1) (by exact hS 2 (by omega) (by omega)) (by omega) (by exact (hA 1 (by omega) (by omega)).1) (by omega) (by assumption) (by assumption) (by assumption)) [0, 11, 9, 12, 2, 3, 4, 5] [1, 6, 7, 8, 10, 13, 14, 15, 16, 17, 18] 0 rfl rfl gX1_step_X1_stepOf rfl ⟨rfl, by decide +kernel⟩ ⟨by decide, by decide⟩ rfl rfl rfl rfl rfl (by decide) rfl (by decide) (by decide) (fun _ h => absurd h List.not_mem_nil) dX1_step_17 rfl (Nat.le_of_ble_eq_true rfl) ⟨by decide, by decide⟩ (fun r u p_11 => ?_)
    obtain ⟨x, cc, tk, gd, fst, rfl, rfl⟩ := p_11
    refine g_perm (ws1 := [(v, oo 1 [.ref ma, .int (iI M), .ref fo, .ref la, .int (iI ti), .int (iI so1), .int (iI ta1), .int (iI (if gd = 0 then go1 else go1 + 1)), .int (iI sl)]), (ma, aM E 6 mq), (fo, oo 2 [.ref f1, .ref f2, .ref f3, .int (iI nf)]), (f1, aI E 8 fm), (f2, aI E 8 fa), (f3, aI E 8 fb), (la, aI E 8 ld), (ad 0, oo 3 (fMa 0 .null (sd 0) (g1 0))), (sd 0, aI E 4 (S 0)), (ad 1, oo 3 (fMa 1 (.ref (ad 0)) (sd 1) (up (g1 1) 0 (if tk = 0 then (g1 1) 0 else (g1 1) 0 - 1)))), (sd 1, aI E 4 (S 1)), (ad 2, oo 3 (fMa 2 (.ref (ad 1)) (sd 2) cc)), (sd 2, aI E 4 (S 2)), (ad 3, oo 3 (fMa 3 (.ref (ad 2)) (sd 3) (g1 3))), (sd 3, aI E 4 (S 3)), (ad 4, oo 3 (fMa 4 (.ref (ad 3)) (sd 4) (g1 4))), (sd 4, aI E 4 (S 4)), (ad 5, oo 3 (fMa 5 (.ref (ad 4)) (sd 5) (g1 5))), (sd 5, aI E 4 (S 5))]) [11, 0, 15, 16, 17, 18, 1, 2, 3, 13, 4, 12, 14, 5, 6, 7, 8, 9, 10] rfl (by decide) rfl ?_
    have hok := sStep_ok (t := ti) fst (hA 2 (by omega) (by omega)) (hS 2 (by omega) (by omega)) (by omega) (by omega) (by omega) (by have q9 := (hA 1 (by omega) (by omega)).1; unfold mOk at q9; omega)
    have hgd := sStep_gd fst
    refine g_put (C := RX3) (T := TX3) (N := 14) (ws1 := [(v, oo 1 [.ref ma, .int (iI M), .ref fo, .ref la, .int (iI ti), .int (iI so1), .int (iI ta1), .int (iI (if gd = 0 then go1 else go1 + 1)), .int (iI sl)]), (ma, aM E 6 mq), (fo, oo 2 [.ref f1, .ref f2, .ref f3, .int (iI nf)]), (f1, aI E 8 fm), (f2, aI E 8 fa), (f3, aI E 8 fb), (la, aI E 8 ld), (ad 0, oo 3 (fMa 0 .null (sd 0) (g1 0))), (sd 0, aI E 4 (S 0)), (ad 1, oo 3 (fMa 1 (.ref (ad 0)) (sd 1) (up (g1 1) 0 (if tk = 0 then (g1 1) 0 else (g1 1) 0 - 1)))), (sd 1, aI E 4 (S 1)), (ad 2, oo 3 (fMa 2 (.ref (ad 1)) (sd 2) (up cc 9 x))), (sd 2, aI E 4 (S 2)), (ad 3, oo 3 (fMa 3 (.ref (ad 2)) (sd 3) (g1 3))), (sd 3, aI E 4 (S 3)), (ad 4, oo 3 (fMa 4 (.ref (ad 3)) (sd 4) (g1 4))), (sd 4, aI E 4 (S 4)), (ad 5, oo 3 (fMa 5 (.ref (ad 4)) (sd 5) (g1 5))), (sd 5, aI E 4 (S 5))]) 11 12 (fun _ h => List.mem_cons_of_mem _ (List.mem_append_left _ (List.mem_append_right _ h))) tyX3 tyX3_ok nmX3 (List.mem_of_getElem? (i := 2) rfl) rfl rfl (by decide) rfl (tyX3_ok 12 (by decide)) rfl rfl (by first | decide | exact Nat.le_of_ble_eq_true rfl) dX1_step_20 rfl rfl ?_
    refine g_aload_n 2 dX1_step_23 rfl rfl ?_
    refine g_get (v := .int (iI x)) (C := RX3) (T := TX3) (N := 14) 11 12 (fun _ h => List.mem_cons_of_mem _ (List.mem_append_left _ (List.mem_append_right _ h))) (List.mem_of_getElem? (i := 2) rfl) rfl rfl (by decide) rfl rfl dX1_step_24 ?_
    refine g_iconst dX1_step_27 ?_
    refine g_icmp_ne (tgt := 41) (by unfold R32; omega) (by unfold R32; omega) dX1_step_28 rfl (fun hx3 => ?_) (fun hx3 => ?_)
    · refine g_aload_n 2 dX1_step_31 rfl rfl ?_
      refine g_dup dX1_step_32 rfl ?_
      refine g_get (v := .int (iI (cc 10))) (C := RX3) (T := TX3) (N := 14) 11 13 (fun _ h => List.mem_cons_of_mem _ (List.mem_append_left _ (List.mem_append_right _ h))) (List.mem_of_getElem? (i := 3) rfl) rfl rfl (by decide) rfl rfl dX1_step_33 ?_
      refine g_iconst dX1_step_36 ?_
      refine g_iadd dX1_step_37 ?_
      refine g_put (C := RX3) (T := TX3) (N := 14) (ws1 := [(v, oo 1 [.ref ma, .int (iI M), .ref fo, .ref la, .int (iI ti), .int (iI so1), .int (iI ta1), .int (iI (if gd = 0 then go1 else go1 + 1)), .int (iI sl)]), (ma, aM E 6 mq), (fo, oo 2 [.ref f1, .ref f2, .ref f3, .int (iI nf)]), (f1, aI E 8 fm), (f2, aI E 8 fa), (f3, aI E 8 fb), (la, aI E 8 ld), (ad 0, oo 3 (fMa 0 .null (sd 0) (g1 0))), (sd 0, aI E 4 (S 0)), (ad 1, oo 3 (fMa 1 (.ref (ad 0)) (sd 1) (up (g1 1) 0 (if tk = 0 then (g1 1) 0 else (g1 1) 0 - 1)))), (sd 1, aI E 4 (S 1)), (ad 2, oo 3 (fMa 2 (.ref (ad 1)) (sd 2) (up (up cc 9 x) 10 ((cc 10) + 1)))), (sd 2, aI E 4 (S 2)), (ad 3, oo 3 (fMa 3 (.ref (ad 2)) (sd 3) (g1 3))), (sd 3, aI E 4 (S 3)), (ad 4, oo 3 (fMa 4 (.ref (ad 3)) (sd 4) (g1 4))), (sd 4, aI E 4 (S 4)), (ad 5, oo 3 (fMa 5 (.ref (ad 4)) (sd 5) (g1 5))), (sd 5, aI E 4 (S 5))]) 11 13 (fun _ h => List.mem_cons_of_mem _ (List.mem_append_left _ (List.mem_append_right _ h))) tyX3 tyX3_ok nmX3 (List.mem_of_getElem? (i := 3) rfl) rfl rfl (by decide) rfl (tyX3_ok 13 (by decide)) rfl rfl (by first | decide | exact Nat.le_of_ble_eq_true rfl) dX1_step_38 rfl rfl ?_
      have hF_12 : finM x cc = up (up cc 9 x) 10 ((cc 10) + 1) := by unfold finM; first | (rw [if_pos (by assumption)]; done) | (rw [if_neg (by assumption)]; done)
      refine g_as (ws1 := [(v, oo 1 [.ref ma, .int (iI M), .ref fo, .ref la, .int (iI ti), .int (iI so1), .int (iI ta1), .int (iI (if gd = 0 then go1 else go1 + 1)), .int (iI sl)]), (ma, aM E 6 mq), (fo, oo 2 [.ref f1, .ref f2, .ref f3, .int (iI nf)]), (f1, aI E 8 fm), (f2, aI E 8 fa), (f3, aI E 8 fb), (la, aI E 8 ld), (ad 0, oo 3 (fMa 0 .null (sd 0) (g1 0))), (sd 0, aI E 4 (S 0)), (ad 1, oo 3 (fMa 1 (.ref (ad 0)) (sd 1) (up (g1 1) 0 (if tk = 0 then (g1 1) 0 else (g1 1) 0 - 1)))), (sd 1, aI E 4 (S 1)), (ad 2, oo 3 (fMa 2 (.ref (ad 1)) (sd 2) (finM x cc))), (sd 2, aI E 4 (S 2)), (ad 3, oo 3 (fMa 3 (.ref (ad 2)) (sd 3) (g1 3))), (sd 3, aI E 4 (S 3)), (ad 4, oo 3 (fMa 4 (.ref (ad 3)) (sd 4) (g1 4))), (sd 4, aI E 4 (S 4)), (ad 5, oo 3 (fMa 5 (.ref (ad 4)) (sd 5) (g1 5))), (sd 5, aI E 4 (S 5))]) ?_ (by rw [hF_12]) rfl rfl
      refine g_aload_n 2 dX1_step_41 rfl rfl ?_
      refine g_get (v := .ref (ad 1)) (C := RX3) (T := TX3) (N := 14) 11 1 (fun _ h => List.mem_cons_of_mem _ (List.mem_append_left _ (List.mem_append_right _ h))) (List.mem_of_getElem? (i := 4) rfl) rfl rfl (by decide) rfl rfl dX1_step_42 ?_
      refine g_astore_n (lv1 := [(2, .ref (ad 1)), (0, .ref v), (1, .int (iI go))]) dX1_step_45 rfl (by decide) rfl ?_
      refine g_goto (tgt := 10) dX1_step_46 rfl ?_
      refine g_lv (lv1 := [(0, .ref v), (1, .int (iI go)), (2, .ref (ad 1))]) [1, 2, 0] rfl ?_
      exact K10_1 (ug (ug g1 2 (finM x cc)) 1 (gapM (g1 1) tk)) so1 ta1 (if gd = 0 then go1 else go1 + 1) (by intro g' so' ta' go' h; exact hK _ _ _ _ (sPass_s 2 ⟨x, cc, tk, gd, fst, h⟩)) (by intro j j0 j1; unfold ug; by_cases e : j = 1; (rw [if_pos e]; exact gap_ok (hA 1 (by omega) (by omega)) hok.2.2.1); rw [if_neg e, if_neg (by omega)]; exact hA j j0 (by omega)) (by intro j j0 j1; unfold ug; rw [if_neg (show ¬ j = 1 by omega)]; by_cases e : j = 2; (rw [if_pos e]; exact hok.1); rw [if_neg e]; exact hB j (by omega) j1) (by first | omega | (split <;> omega)) (by first | omega | (split <;> omega))
    · have hF_13 : finM x cc = up cc 9 x := by unfold finM; first | (rw [if_pos (by assumption)]; done) | (rw [if_neg (by assumption)]; done)
      refine g_as (ws1 := [(v, oo 1 [.ref ma, .int (iI M), .ref fo, .ref la, .int (iI ti), .int (iI so1), .int (iI ta1), .int (iI (if gd = 0 then go1 else go1 + 1)), .int (iI sl)]), (ma, aM E 6 mq), (fo, oo 2 [.ref f1, .ref f2, .ref f3, .int (iI nf)]), (f1, aI E 8 fm), (f2, aI E 8 fa), (f3, aI E 8 fb), (la, aI E 8 ld), (ad 0, oo 3 (fMa 0 .null (sd 0) (g1 0))), (sd 0, aI E 4 (S 0)), (ad 1, oo 3 (fMa 1 (.ref (ad 0)) (sd 1) (up (g1 1) 0 (if tk = 0 then (g1 1) 0 else (g1 1) 0 - 1)))), (sd 1, aI E 4 (S 1)), (ad 2, oo 3 (fMa 2 (.ref (ad 1)) (sd 2) (finM x cc))), (sd 2, aI E 4 (S 2)), (ad 3, oo 3 (fMa 3 (.ref (ad 2)) (sd 3) (g1 3))), (sd 3, aI E 4 (S 3)), (ad 4, oo 3 (fMa 4 (.ref (ad 3)) (sd 4) (g1 4))), (sd 4, aI E 4 (S 4)), (ad 5, oo 3 (fMa 5 (.ref (ad 4)) (sd 5) (g1 5))), (sd 5, aI E 4 (S 5))]) ?_ (by rw [hF_13]) rfl rfl
      refine g_aload_n 2 dX1_step_41 rfl rfl ?_
      refine g_get (v := .ref (ad 1)) (C := RX3) (T := TX3) (N := 14) 11 1 (fun _ h => List.mem_cons_of_mem _ (List.mem_append_left _ (List.mem_append_right _ h))) (List.mem_of_getElem? (i := 4) rfl) rfl rfl (by decide) rfl rfl dX1_step_42 ?_
      refine g_astore_n (lv1 := [(2, .ref (ad 1)), (0, .ref v), (1, .int (iI go))]) dX1_step_45 rfl (by decide) rfl ?_
      refine g_goto (tgt := 10) dX1_step_46 rfl ?_
      refine g_lv (lv1 := [(0, .ref v), (1, .int (iI go)), (2, .ref (ad 1))]) [1, 2, 0] rfl ?_
      exact K10_1 (ug (ug g1 2 (finM x cc)) 1 (gapM (g1 1) tk)) so1 ta1 (if gd = 0 then go1 else go1 + 1) (by intro g' so' ta' go' h; exact hK _ _ _ _ (sPass_s 2 ⟨x, cc, tk, gd, fst, h⟩)) (by intro j j0 j1; unfold ug; by_cases e : j = 1; (rw [if_pos e]; exact gap_ok (hA 1 (by omega) (by omega)) hok.2.2.1); rw [if_neg e, if_neg (by omega)]; exact hA j j0 (by omega)) (by intro j j0 j1; unfold ug; rw [if_neg (show ¬ j = 1 by omega)]; by_cases e : j = 2; (rw [if_pos e]; exact hok.1); rw [if_neg e]; exact hB j (by omega) j1) (by first | omega | (split <;> omega)) (by first | omega | (split <;> omega))
  have K10_3 : ∀ (g1 : Int → Int → Int) (so1 : Int) (ta1 : Int) (go1 : Int) (hK : ∀ g' so' ta' go', sPass (fun k => fl fm fa fb k ti nf) M ti S 4 g1 so1 ta1 go1 g' so' ta' go' → sPass (fun k => fl fm fa fb k ti nf) M ti S M.toNat g so ta go g' so' ta' go') (hA : ∀ j, 0 ≤ j → j ≤ 3 → kOk ti (g1 j)) (hB : ∀ j, 3 < j → j < 6 → kOk (ti + 1) (g1 j)) (hso1 : 0 ≤ so1 ∧ so1 ≤ 100000) (hgo1 : 0 ≤ go1 ∧ (go1 ≤ ti ∨ (3 < M - 1 ∧ go1 ≤ ti + 1))), G X ({ frames := 4, cells := 0, slots := 0, locals := 84 } : Room) cX1_step 3 RX1 wsX1_step E [] 0 0 [(v, oo 1 [.ref ma, .int (iI M), .ref fo, .ref la, .int (iI ti), .int (iI so1), .int (iI ta1), .int (iI go1), .int (iI sl)]), (ma, aM E 6 mq), (fo, oo 2 [.ref f1, .ref f2, .ref f3, .int (iI nf)]), (f1, aI E 8 fm), (f2, aI E 8 fa), (f3, aI E 8 fb), (la, aI E 8 ld), (ad 0, oo 3 (fMa 0 .null (sd 0) (g1 0))), (sd 0, aI E 4 (S 0)), (ad 1, oo 3 (fMa 1 (.ref (ad 0)) (sd 1) (g1 1))), (sd 1, aI E 4 (S 1)), (ad 2, oo 3 (fMa 2 (.ref (ad 1)) (sd 2) (g1 2))), (sd 2, aI E 4 (S 2)), (ad 3, oo 3 (fMa 3 (.ref (ad 2)) (sd 3) (g1 3))), (sd 3, aI E 4 (S 3)), (ad 4, oo 3 (fMa 4 (.ref (ad 3)) (sd 4) (g1 4))), (sd 4, aI E 4 (S 4)), (ad 5, oo 3 (fMa 5 (.ref (ad 4)) (sd 5) (g1 5))), (sd 5, aI E 4 (S 5))] [(0, .ref v), (1, .int (iI go)), (2, .ref (ad 3))] 10 [] := by
    intro g1 so1 ta1 go1 hK hA hB hso1 hgo1
    refine g_aload_n 2 dX1_step_10 rfl rfl ?_
    refine g_ifnull dX1_step_11 ?_
    refine g_aload_n 2 dX1_step_14 rfl rfl ?_
    refine g_aload_n 0 dX1_step_15 rfl rfl ?_
    refine g_aload_n 2 dX1_step_16 rfl rfl ?_
    refine g_callV_i (n := 1) (As := [.ref (ad 3)]) (wr := [(ma, aM E 6 mq), (la, aI E 8 ld), (ad 0, oo 3 (fMa 0 .null (sd 0) (g1 0))), (sd 0, aI E 4 (S 0)), (ad 1, oo 3 (fMa 1 (.ref (ad 0)) (sd 1) (g1 1))), (sd 1, aI E 4 (S 1)), (sd 2, aI E 4 (S 2)), (ad 4, oo 3 (fMa 4 (.ref (ad 3)) (sd 4) (g1 4))), (sd 4, aI E 4 (S 4)), (ad 5, oo 3 (fMa 5 (.ref (ad 4)) (sd 5) (g1 5))), (sd 5, aI E 4 (S 5))]) (C := RX1) [.ref (ad 3)] (c_step_a E v ma fo la M ti so1 ta1 go1 sl (ad 3) (sd 3) 3 (g1 3) (ad 2) (sd 2) 2 (.ref (ad 1)) (g1 2) (S 3) f1 f2 f3 nf fm fa fb (by omega) (by omega) (by omega) (by omega) (by exact (hA 3 (by omega) (by omega)).1) (by exact (hA 3 (by omega) (by omega)).2.1) (by exact hS 3 (by omega) (by omega)) (by omega) (by exact (hA 2 (by omega) (by omega)).1) (by omega) (by assumption) (by assumption) (by assumption)) [0, 13, 11, 14, 2, 3, 4, 5] [1, 6, 7, 8, 9, 10, 12, 15, 16, 17, 18] 0 rfl rfl gX1_step_X1_stepOf rfl ⟨rfl, by decide +kernel⟩ ⟨by decide, by decide⟩ rfl rfl rfl rfl rfl (by decide) rfl (by decide) (by decide) (fun _ h => absurd h List.not_mem_nil) dX1_step_17 rfl (Nat.le_of_ble_eq_true rfl) ⟨by decide, by decide⟩ (fun r u p_14 => ?_)
    obtain ⟨x, cc, tk, gd, fst, rfl, rfl⟩ := p_14
    refine g_perm (ws1 := [(v, oo 1 [.ref ma, .int (iI M), .ref fo, .ref la, .int (iI ti), .int (iI so1), .int (iI ta1), .int (iI (if gd = 0 then go1 else go1 + 1)), .int (iI sl)]), (ma, aM E 6 mq), (fo, oo 2 [.ref f1, .ref f2, .ref f3, .int (iI nf)]), (f1, aI E 8 fm), (f2, aI E 8 fa), (f3, aI E 8 fb), (la, aI E 8 ld), (ad 0, oo 3 (fMa 0 .null (sd 0) (g1 0))), (sd 0, aI E 4 (S 0)), (ad 1, oo 3 (fMa 1 (.ref (ad 0)) (sd 1) (g1 1))), (sd 1, aI E 4 (S 1)), (ad 2, oo 3 (fMa 2 (.ref (ad 1)) (sd 2) (up (g1 2) 0 (if tk = 0 then (g1 2) 0 else (g1 2) 0 - 1)))), (sd 2, aI E 4 (S 2)), (ad 3, oo 3 (fMa 3 (.ref (ad 2)) (sd 3) cc)), (sd 3, aI E 4 (S 3)), (ad 4, oo 3 (fMa 4 (.ref (ad 3)) (sd 4) (g1 4))), (sd 4, aI E 4 (S 4)), (ad 5, oo 3 (fMa 5 (.ref (ad 4)) (sd 5) (g1 5))), (sd 5, aI E 4 (S 5))]) [11, 0, 15, 16, 17, 18, 1, 2, 3, 4, 5, 13, 6, 12, 14, 7, 8, 9, 10] rfl (by decide) rfl ?_
    have hok := sStep_ok (t := ti) fst (hA 3 (by omega) (by omega)) (hS 3 (by omega) (by omega)) (by omega) (by omega) (by omega) (by have q9 := (hA 2 (by omega) (by omega)).1; unfold mOk at q9; omega)
    have hgd := sStep_gd fst
    refine g_put (C := RX3) (T := TX3) (N := 14) (ws1 := [(v, oo 1 [.ref ma, .int (iI M), .ref fo, .ref la, .int (iI ti), .int (iI so1), .int (iI ta1), .int (iI (if gd = 0 then go1 else go1 + 1)), .int (iI sl)]), (ma, aM E 6 mq), (fo, oo 2 [.ref f1, .ref f2, .ref f3, .int (iI nf)]), (f1, aI E 8 fm), (f2, aI E 8 fa), (f3, aI E 8 fb), (la, aI E 8 ld), (ad 0, oo 3 (fMa 0 .null (sd 0) (g1 0))), (sd 0, aI E 4 (S 0)), (ad 1, oo 3 (fMa 1 (.ref (ad 0)) (sd 1) (g1 1))), (sd 1, aI E 4 (S 1)), (ad 2, oo 3 (fMa 2 (.ref (ad 1)) (sd 2) (up (g1 2) 0 (if tk = 0 then (g1 2) 0 else (g1 2) 0 - 1)))), (sd 2, aI E 4 (S 2)), (ad 3, oo 3 (fMa 3 (.ref (ad 2)) (sd 3) (up cc 9 x))), (sd 3, aI E 4 (S 3)), (ad 4, oo 3 (fMa 4 (.ref (ad 3)) (sd 4) (g1 4))), (sd 4, aI E 4 (S 4)), (ad 5, oo 3 (fMa 5 (.ref (ad 4)) (sd 5) (g1 5))), (sd 5, aI E 4 (S 5))]) 13 12 (fun _ h => List.mem_cons_of_mem _ (List.mem_append_left _ (List.mem_append_right _ h))) tyX3 tyX3_ok nmX3 (List.mem_of_getElem? (i := 2) rfl) rfl rfl (by decide) rfl (tyX3_ok 12 (by decide)) rfl rfl (by first | decide | exact Nat.le_of_ble_eq_true rfl) dX1_step_20 rfl rfl ?_
    refine g_aload_n 2 dX1_step_23 rfl rfl ?_
    refine g_get (v := .int (iI x)) (C := RX3) (T := TX3) (N := 14) 13 12 (fun _ h => List.mem_cons_of_mem _ (List.mem_append_left _ (List.mem_append_right _ h))) (List.mem_of_getElem? (i := 2) rfl) rfl rfl (by decide) rfl rfl dX1_step_24 ?_
    refine g_iconst dX1_step_27 ?_
    refine g_icmp_ne (tgt := 41) (by unfold R32; omega) (by unfold R32; omega) dX1_step_28 rfl (fun hx3 => ?_) (fun hx3 => ?_)
    · refine g_aload_n 2 dX1_step_31 rfl rfl ?_
      refine g_dup dX1_step_32 rfl ?_
      refine g_get (v := .int (iI (cc 10))) (C := RX3) (T := TX3) (N := 14) 13 13 (fun _ h => List.mem_cons_of_mem _ (List.mem_append_left _ (List.mem_append_right _ h))) (List.mem_of_getElem? (i := 3) rfl) rfl rfl (by decide) rfl rfl dX1_step_33 ?_
      refine g_iconst dX1_step_36 ?_
      refine g_iadd dX1_step_37 ?_
      refine g_put (C := RX3) (T := TX3) (N := 14) (ws1 := [(v, oo 1 [.ref ma, .int (iI M), .ref fo, .ref la, .int (iI ti), .int (iI so1), .int (iI ta1), .int (iI (if gd = 0 then go1 else go1 + 1)), .int (iI sl)]), (ma, aM E 6 mq), (fo, oo 2 [.ref f1, .ref f2, .ref f3, .int (iI nf)]), (f1, aI E 8 fm), (f2, aI E 8 fa), (f3, aI E 8 fb), (la, aI E 8 ld), (ad 0, oo 3 (fMa 0 .null (sd 0) (g1 0))), (sd 0, aI E 4 (S 0)), (ad 1, oo 3 (fMa 1 (.ref (ad 0)) (sd 1) (g1 1))), (sd 1, aI E 4 (S 1)), (ad 2, oo 3 (fMa 2 (.ref (ad 1)) (sd 2) (up (g1 2) 0 (if tk = 0 then (g1 2) 0 else (g1 2) 0 - 1)))), (sd 2, aI E 4 (S 2)), (ad 3, oo 3 (fMa 3 (.ref (ad 2)) (sd 3) (up (up cc 9 x) 10 ((cc 10) + 1)))), (sd 3, aI E 4 (S 3)), (ad 4, oo 3 (fMa 4 (.ref (ad 3)) (sd 4) (g1 4))), (sd 4, aI E 4 (S 4)), (ad 5, oo 3 (fMa 5 (.ref (ad 4)) (sd 5) (g1 5))), (sd 5, aI E 4 (S 5))]) 13 13 (fun _ h => List.mem_cons_of_mem _ (List.mem_append_left _ (List.mem_append_right _ h))) tyX3 tyX3_ok nmX3 (List.mem_of_getElem? (i := 3) rfl) rfl rfl (by decide) rfl (tyX3_ok 13 (by decide)) rfl rfl (by first | decide | exact Nat.le_of_ble_eq_true rfl) dX1_step_38 rfl rfl ?_
      have hF_15 : finM x cc = up (up cc 9 x) 10 ((cc 10) + 1) := by unfold finM; first | (rw [if_pos (by assumption)]; done) | (rw [if_neg (by assumption)]; done)
      refine g_as (ws1 := [(v, oo 1 [.ref ma, .int (iI M), .ref fo, .ref la, .int (iI ti), .int (iI so1), .int (iI ta1), .int (iI (if gd = 0 then go1 else go1 + 1)), .int (iI sl)]), (ma, aM E 6 mq), (fo, oo 2 [.ref f1, .ref f2, .ref f3, .int (iI nf)]), (f1, aI E 8 fm), (f2, aI E 8 fa), (f3, aI E 8 fb), (la, aI E 8 ld), (ad 0, oo 3 (fMa 0 .null (sd 0) (g1 0))), (sd 0, aI E 4 (S 0)), (ad 1, oo 3 (fMa 1 (.ref (ad 0)) (sd 1) (g1 1))), (sd 1, aI E 4 (S 1)), (ad 2, oo 3 (fMa 2 (.ref (ad 1)) (sd 2) (up (g1 2) 0 (if tk = 0 then (g1 2) 0 else (g1 2) 0 - 1)))), (sd 2, aI E 4 (S 2)), (ad 3, oo 3 (fMa 3 (.ref (ad 2)) (sd 3) (finM x cc))), (sd 3, aI E 4 (S 3)), (ad 4, oo 3 (fMa 4 (.ref (ad 3)) (sd 4) (g1 4))), (sd 4, aI E 4 (S 4)), (ad 5, oo 3 (fMa 5 (.ref (ad 4)) (sd 5) (g1 5))), (sd 5, aI E 4 (S 5))]) ?_ (by rw [hF_15]) rfl rfl
      refine g_aload_n 2 dX1_step_41 rfl rfl ?_
      refine g_get (v := .ref (ad 2)) (C := RX3) (T := TX3) (N := 14) 13 1 (fun _ h => List.mem_cons_of_mem _ (List.mem_append_left _ (List.mem_append_right _ h))) (List.mem_of_getElem? (i := 4) rfl) rfl rfl (by decide) rfl rfl dX1_step_42 ?_
      refine g_astore_n (lv1 := [(2, .ref (ad 2)), (0, .ref v), (1, .int (iI go))]) dX1_step_45 rfl (by decide) rfl ?_
      refine g_goto (tgt := 10) dX1_step_46 rfl ?_
      refine g_lv (lv1 := [(0, .ref v), (1, .int (iI go)), (2, .ref (ad 2))]) [1, 2, 0] rfl ?_
      exact K10_2 (ug (ug g1 3 (finM x cc)) 2 (gapM (g1 2) tk)) so1 ta1 (if gd = 0 then go1 else go1 + 1) (by intro g' so' ta' go' h; exact hK _ _ _ _ (sPass_s 3 ⟨x, cc, tk, gd, fst, h⟩)) (by intro j j0 j1; unfold ug; by_cases e : j = 2; (rw [if_pos e]; exact gap_ok (hA 2 (by omega) (by omega)) hok.2.2.1); rw [if_neg e, if_neg (by omega)]; exact hA j j0 (by omega)) (by intro j j0 j1; unfold ug; rw [if_neg (show ¬ j = 2 by omega)]; by_cases e : j = 3; (rw [if_pos e]; exact hok.1); rw [if_neg e]; exact hB j (by omega) j1) (by first | omega | (split <;> omega)) (by first | omega | (split <;> omega))
    · have hF_16 : finM x cc = up cc 9 x := by unfold finM; first | (rw [if_pos (by assumption)]; done) | (rw [if_neg (by assumption)]; done)
      refine g_as (ws1 := [(v, oo 1 [.ref ma, .int (iI M), .ref fo, .ref la, .int (iI ti), .int (iI so1), .int (iI ta1), .int (iI (if gd = 0 then go1 else go1 + 1)), .int (iI sl)]), (ma, aM E 6 mq), (fo, oo 2 [.ref f1, .ref f2, .ref f3, .int (iI nf)]), (f1, aI E 8 fm), (f2, aI E 8 fa), (f3, aI E 8 fb), (la, aI E 8 ld), (ad 0, oo 3 (fMa 0 .null (sd 0) (g1 0))), (sd 0, aI E 4 (S 0)), (ad 1, oo 3 (fMa 1 (.ref (ad 0)) (sd 1) (g1 1))), (sd 1, aI E 4 (S 1)), (ad 2, oo 3 (fMa 2 (.ref (ad 1)) (sd 2) (up (g1 2) 0 (if tk = 0 then (g1 2) 0 else (g1 2) 0 - 1)))), (sd 2, aI E 4 (S 2)), (ad 3, oo 3 (fMa 3 (.ref (ad 2)) (sd 3) (finM x cc))), (sd 3, aI E 4 (S 3)), (ad 4, oo 3 (fMa 4 (.ref (ad 3)) (sd 4) (g1 4))), (sd 4, aI E 4 (S 4)), (ad 5, oo 3 (fMa 5 (.ref (ad 4)) (sd 5) (g1 5))), (sd 5, aI E 4 (S 5))]) ?_ (by rw [hF_16]) rfl rfl
      refine g_aload_n 2 dX1_step_41 rfl rfl ?_
      refine g_get (v := .ref (ad 2)) (C := RX3) (T := TX3) (N := 14) 13 1 (fun _ h => List.mem_cons_of_mem _ (List.mem_append_left _ (List.mem_append_right _ h))) (List.mem_of_getElem? (i := 4) rfl) rfl rfl (by decide) rfl rfl dX1_step_42 ?_
      refine g_astore_n (lv1 := [(2, .ref (ad 2)), (0, .ref v), (1, .int (iI go))]) dX1_step_45 rfl (by decide) rfl ?_
      refine g_goto (tgt := 10) dX1_step_46 rfl ?_
      refine g_lv (lv1 := [(0, .ref v), (1, .int (iI go)), (2, .ref (ad 2))]) [1, 2, 0] rfl ?_
      exact K10_2 (ug (ug g1 3 (finM x cc)) 2 (gapM (g1 2) tk)) so1 ta1 (if gd = 0 then go1 else go1 + 1) (by intro g' so' ta' go' h; exact hK _ _ _ _ (sPass_s 3 ⟨x, cc, tk, gd, fst, h⟩)) (by intro j j0 j1; unfold ug; by_cases e : j = 2; (rw [if_pos e]; exact gap_ok (hA 2 (by omega) (by omega)) hok.2.2.1); rw [if_neg e, if_neg (by omega)]; exact hA j j0 (by omega)) (by intro j j0 j1; unfold ug; rw [if_neg (show ¬ j = 2 by omega)]; by_cases e : j = 3; (rw [if_pos e]; exact hok.1); rw [if_neg e]; exact hB j (by omega) j1) (by first | omega | (split <;> omega)) (by first | omega | (split <;> omega))
  have K10_4 : ∀ (g1 : Int → Int → Int) (so1 : Int) (ta1 : Int) (go1 : Int) (hK : ∀ g' so' ta' go', sPass (fun k => fl fm fa fb k ti nf) M ti S 5 g1 so1 ta1 go1 g' so' ta' go' → sPass (fun k => fl fm fa fb k ti nf) M ti S M.toNat g so ta go g' so' ta' go') (hA : ∀ j, 0 ≤ j → j ≤ 4 → kOk ti (g1 j)) (hB : ∀ j, 4 < j → j < 6 → kOk (ti + 1) (g1 j)) (hso1 : 0 ≤ so1 ∧ so1 ≤ 100000) (hgo1 : 0 ≤ go1 ∧ (go1 ≤ ti ∨ (4 < M - 1 ∧ go1 ≤ ti + 1))), G X ({ frames := 4, cells := 0, slots := 0, locals := 84 } : Room) cX1_step 3 RX1 wsX1_step E [] 0 0 [(v, oo 1 [.ref ma, .int (iI M), .ref fo, .ref la, .int (iI ti), .int (iI so1), .int (iI ta1), .int (iI go1), .int (iI sl)]), (ma, aM E 6 mq), (fo, oo 2 [.ref f1, .ref f2, .ref f3, .int (iI nf)]), (f1, aI E 8 fm), (f2, aI E 8 fa), (f3, aI E 8 fb), (la, aI E 8 ld), (ad 0, oo 3 (fMa 0 .null (sd 0) (g1 0))), (sd 0, aI E 4 (S 0)), (ad 1, oo 3 (fMa 1 (.ref (ad 0)) (sd 1) (g1 1))), (sd 1, aI E 4 (S 1)), (ad 2, oo 3 (fMa 2 (.ref (ad 1)) (sd 2) (g1 2))), (sd 2, aI E 4 (S 2)), (ad 3, oo 3 (fMa 3 (.ref (ad 2)) (sd 3) (g1 3))), (sd 3, aI E 4 (S 3)), (ad 4, oo 3 (fMa 4 (.ref (ad 3)) (sd 4) (g1 4))), (sd 4, aI E 4 (S 4)), (ad 5, oo 3 (fMa 5 (.ref (ad 4)) (sd 5) (g1 5))), (sd 5, aI E 4 (S 5))] [(0, .ref v), (1, .int (iI go)), (2, .ref (ad 4))] 10 [] := by
    intro g1 so1 ta1 go1 hK hA hB hso1 hgo1
    refine g_aload_n 2 dX1_step_10 rfl rfl ?_
    refine g_ifnull dX1_step_11 ?_
    refine g_aload_n 2 dX1_step_14 rfl rfl ?_
    refine g_aload_n 0 dX1_step_15 rfl rfl ?_
    refine g_aload_n 2 dX1_step_16 rfl rfl ?_
    refine g_callV_i (n := 1) (As := [.ref (ad 4)]) (wr := [(ma, aM E 6 mq), (la, aI E 8 ld), (ad 0, oo 3 (fMa 0 .null (sd 0) (g1 0))), (sd 0, aI E 4 (S 0)), (ad 1, oo 3 (fMa 1 (.ref (ad 0)) (sd 1) (g1 1))), (sd 1, aI E 4 (S 1)), (ad 2, oo 3 (fMa 2 (.ref (ad 1)) (sd 2) (g1 2))), (sd 2, aI E 4 (S 2)), (sd 3, aI E 4 (S 3)), (ad 5, oo 3 (fMa 5 (.ref (ad 4)) (sd 5) (g1 5))), (sd 5, aI E 4 (S 5))]) (C := RX1) [.ref (ad 4)] (c_step_a E v ma fo la M ti so1 ta1 go1 sl (ad 4) (sd 4) 4 (g1 4) (ad 3) (sd 3) 3 (.ref (ad 2)) (g1 3) (S 4) f1 f2 f3 nf fm fa fb (by omega) (by omega) (by omega) (by omega) (by exact (hA 4 (by omega) (by omega)).1) (by exact (hA 4 (by omega) (by omega)).2.1) (by exact hS 4 (by omega) (by omega)) (by omega) (by exact (hA 3 (by omega) (by omega)).1) (by omega) (by assumption) (by assumption) (by assumption)) [0, 15, 13, 16, 2, 3, 4, 5] [1, 6, 7, 8, 9, 10, 11, 12, 14, 17, 18] 0 rfl rfl gX1_step_X1_stepOf rfl ⟨rfl, by decide +kernel⟩ ⟨by decide, by decide⟩ rfl rfl rfl rfl rfl (by decide) rfl (by decide) (by decide) (fun _ h => absurd h List.not_mem_nil) dX1_step_17 rfl (Nat.le_of_ble_eq_true rfl) ⟨by decide, by decide⟩ (fun r u p_17 => ?_)
    obtain ⟨x, cc, tk, gd, fst, rfl, rfl⟩ := p_17
    refine g_perm (ws1 := [(v, oo 1 [.ref ma, .int (iI M), .ref fo, .ref la, .int (iI ti), .int (iI so1), .int (iI ta1), .int (iI (if gd = 0 then go1 else go1 + 1)), .int (iI sl)]), (ma, aM E 6 mq), (fo, oo 2 [.ref f1, .ref f2, .ref f3, .int (iI nf)]), (f1, aI E 8 fm), (f2, aI E 8 fa), (f3, aI E 8 fb), (la, aI E 8 ld), (ad 0, oo 3 (fMa 0 .null (sd 0) (g1 0))), (sd 0, aI E 4 (S 0)), (ad 1, oo 3 (fMa 1 (.ref (ad 0)) (sd 1) (g1 1))), (sd 1, aI E 4 (S 1)), (ad 2, oo 3 (fMa 2 (.ref (ad 1)) (sd 2) (g1 2))), (sd 2, aI E 4 (S 2)), (ad 3, oo 3 (fMa 3 (.ref (ad 2)) (sd 3) (up (g1 3) 0 (if tk = 0 then (g1 3) 0 else (g1 3) 0 - 1)))), (sd 3, aI E 4 (S 3)), (ad 4, oo 3 (fMa 4 (.ref (ad 3)) (sd 4) cc)), (sd 4, aI E 4 (S 4)), (ad 5, oo 3 (fMa 5 (.ref (ad 4)) (sd 5) (g1 5))), (sd 5, aI E 4 (S 5))]) [11, 0, 15, 16, 17, 18, 1, 2, 3, 4, 5, 6, 7, 13, 8, 12, 14, 9, 10] rfl (by decide) rfl ?_
    have hok := sStep_ok (t := ti) fst (hA 4 (by omega) (by omega)) (hS 4 (by omega) (by omega)) (by omega) (by omega) (by omega) (by have q9 := (hA 3 (by omega) (by omega)).1; unfold mOk at q9; omega)
    have hgd := sStep_gd fst
    refine g_put (C := RX3) (T := TX3) (N := 14) (ws1 := [(v, oo 1 [.ref ma, .int (iI M), .ref fo, .ref la, .int (iI ti), .int (iI so1), .int (iI ta1), .int (iI (if gd = 0 then go1 else go1 + 1)), .int (iI sl)]), (ma, aM E 6 mq), (fo, oo 2 [.ref f1, .ref f2, .ref f3, .int (iI nf)]), (f1, aI E 8 fm), (f2, aI E 8 fa), (f3, aI E 8 fb), (la, aI E 8 ld), (ad 0, oo 3 (fMa 0 .null (sd 0) (g1 0))), (sd 0, aI E 4 (S 0)), (ad 1, oo 3 (fMa 1 (.ref (ad 0)) (sd 1) (g1 1))), (sd 1, aI E 4 (S 1)), (ad 2, oo 3 (fMa 2 (.ref (ad 1)) (sd 2) (g1 2))), (sd 2, aI E 4 (S 2)), (ad 3, oo 3 (fMa 3 (.ref (ad 2)) (sd 3) (up (g1 3) 0 (if tk = 0 then (g1 3) 0 else (g1 3) 0 - 1)))), (sd 3, aI E 4 (S 3)), (ad 4, oo 3 (fMa 4 (.ref (ad 3)) (sd 4) (up cc 9 x))), (sd 4, aI E 4 (S 4)), (ad 5, oo 3 (fMa 5 (.ref (ad 4)) (sd 5) (g1 5))), (sd 5, aI E 4 (S 5))]) 15 12 (fun _ h => List.mem_cons_of_mem _ (List.mem_append_left _ (List.mem_append_right _ h))) tyX3 tyX3_ok nmX3 (List.mem_of_getElem? (i := 2) rfl) rfl rfl (by decide) rfl (tyX3_ok 12 (by decide)) rfl rfl (by first | decide | exact Nat.le_of_ble_eq_true rfl) dX1_step_20 rfl rfl ?_
    refine g_aload_n 2 dX1_step_23 rfl rfl ?_
    refine g_get (v := .int (iI x)) (C := RX3) (T := TX3) (N := 14) 15 12 (fun _ h => List.mem_cons_of_mem _ (List.mem_append_left _ (List.mem_append_right _ h))) (List.mem_of_getElem? (i := 2) rfl) rfl rfl (by decide) rfl rfl dX1_step_24 ?_
    refine g_iconst dX1_step_27 ?_
    refine g_icmp_ne (tgt := 41) (by unfold R32; omega) (by unfold R32; omega) dX1_step_28 rfl (fun hx3 => ?_) (fun hx3 => ?_)
    · refine g_aload_n 2 dX1_step_31 rfl rfl ?_
      refine g_dup dX1_step_32 rfl ?_
      refine g_get (v := .int (iI (cc 10))) (C := RX3) (T := TX3) (N := 14) 15 13 (fun _ h => List.mem_cons_of_mem _ (List.mem_append_left _ (List.mem_append_right _ h))) (List.mem_of_getElem? (i := 3) rfl) rfl rfl (by decide) rfl rfl dX1_step_33 ?_
      refine g_iconst dX1_step_36 ?_
      refine g_iadd dX1_step_37 ?_
      refine g_put (C := RX3) (T := TX3) (N := 14) (ws1 := [(v, oo 1 [.ref ma, .int (iI M), .ref fo, .ref la, .int (iI ti), .int (iI so1), .int (iI ta1), .int (iI (if gd = 0 then go1 else go1 + 1)), .int (iI sl)]), (ma, aM E 6 mq), (fo, oo 2 [.ref f1, .ref f2, .ref f3, .int (iI nf)]), (f1, aI E 8 fm), (f2, aI E 8 fa), (f3, aI E 8 fb), (la, aI E 8 ld), (ad 0, oo 3 (fMa 0 .null (sd 0) (g1 0))), (sd 0, aI E 4 (S 0)), (ad 1, oo 3 (fMa 1 (.ref (ad 0)) (sd 1) (g1 1))), (sd 1, aI E 4 (S 1)), (ad 2, oo 3 (fMa 2 (.ref (ad 1)) (sd 2) (g1 2))), (sd 2, aI E 4 (S 2)), (ad 3, oo 3 (fMa 3 (.ref (ad 2)) (sd 3) (up (g1 3) 0 (if tk = 0 then (g1 3) 0 else (g1 3) 0 - 1)))), (sd 3, aI E 4 (S 3)), (ad 4, oo 3 (fMa 4 (.ref (ad 3)) (sd 4) (up (up cc 9 x) 10 ((cc 10) + 1)))), (sd 4, aI E 4 (S 4)), (ad 5, oo 3 (fMa 5 (.ref (ad 4)) (sd 5) (g1 5))), (sd 5, aI E 4 (S 5))]) 15 13 (fun _ h => List.mem_cons_of_mem _ (List.mem_append_left _ (List.mem_append_right _ h))) tyX3 tyX3_ok nmX3 (List.mem_of_getElem? (i := 3) rfl) rfl rfl (by decide) rfl (tyX3_ok 13 (by decide)) rfl rfl (by first | decide | exact Nat.le_of_ble_eq_true rfl) dX1_step_38 rfl rfl ?_
      have hF_18 : finM x cc = up (up cc 9 x) 10 ((cc 10) + 1) := by unfold finM; first | (rw [if_pos (by assumption)]; done) | (rw [if_neg (by assumption)]; done)
      refine g_as (ws1 := [(v, oo 1 [.ref ma, .int (iI M), .ref fo, .ref la, .int (iI ti), .int (iI so1), .int (iI ta1), .int (iI (if gd = 0 then go1 else go1 + 1)), .int (iI sl)]), (ma, aM E 6 mq), (fo, oo 2 [.ref f1, .ref f2, .ref f3, .int (iI nf)]), (f1, aI E 8 fm), (f2, aI E 8 fa), (f3, aI E 8 fb), (la, aI E 8 ld), (ad 0, oo 3 (fMa 0 .null (sd 0) (g1 0))), (sd 0, aI E 4 (S 0)), (ad 1, oo 3 (fMa 1 (.ref (ad 0)) (sd 1) (g1 1))), (sd 1, aI E 4 (S 1)), (ad 2, oo 3 (fMa 2 (.ref (ad 1)) (sd 2) (g1 2))), (sd 2, aI E 4 (S 2)), (ad 3, oo 3 (fMa 3 (.ref (ad 2)) (sd 3) (up (g1 3) 0 (if tk = 0 then (g1 3) 0 else (g1 3) 0 - 1)))), (sd 3, aI E 4 (S 3)), (ad 4, oo 3 (fMa 4 (.ref (ad 3)) (sd 4) (finM x cc))), (sd 4, aI E 4 (S 4)), (ad 5, oo 3 (fMa 5 (.ref (ad 4)) (sd 5) (g1 5))), (sd 5, aI E 4 (S 5))]) ?_ (by rw [hF_18]) rfl rfl
      refine g_aload_n 2 dX1_step_41 rfl rfl ?_
      refine g_get (v := .ref (ad 3)) (C := RX3) (T := TX3) (N := 14) 15 1 (fun _ h => List.mem_cons_of_mem _ (List.mem_append_left _ (List.mem_append_right _ h))) (List.mem_of_getElem? (i := 4) rfl) rfl rfl (by decide) rfl rfl dX1_step_42 ?_
      refine g_astore_n (lv1 := [(2, .ref (ad 3)), (0, .ref v), (1, .int (iI go))]) dX1_step_45 rfl (by decide) rfl ?_
      refine g_goto (tgt := 10) dX1_step_46 rfl ?_
      refine g_lv (lv1 := [(0, .ref v), (1, .int (iI go)), (2, .ref (ad 3))]) [1, 2, 0] rfl ?_
      exact K10_3 (ug (ug g1 4 (finM x cc)) 3 (gapM (g1 3) tk)) so1 ta1 (if gd = 0 then go1 else go1 + 1) (by intro g' so' ta' go' h; exact hK _ _ _ _ (sPass_s 4 ⟨x, cc, tk, gd, fst, h⟩)) (by intro j j0 j1; unfold ug; by_cases e : j = 3; (rw [if_pos e]; exact gap_ok (hA 3 (by omega) (by omega)) hok.2.2.1); rw [if_neg e, if_neg (by omega)]; exact hA j j0 (by omega)) (by intro j j0 j1; unfold ug; rw [if_neg (show ¬ j = 3 by omega)]; by_cases e : j = 4; (rw [if_pos e]; exact hok.1); rw [if_neg e]; exact hB j (by omega) j1) (by first | omega | (split <;> omega)) (by first | omega | (split <;> omega))
    · have hF_19 : finM x cc = up cc 9 x := by unfold finM; first | (rw [if_pos (by assumption)]; done) | (rw [if_neg (by assumption)]; done)
      refine g_as (ws1 := [(v, oo 1 [.ref ma, .int (iI M), .ref fo, .ref la, .int (iI ti), .int (iI so1), .int (iI ta1), .int (iI (if gd = 0 then go1 else go1 + 1)), .int (iI sl)]), (ma, aM E 6 mq), (fo, oo 2 [.ref f1, .ref f2, .ref f3, .int (iI nf)]), (f1, aI E 8 fm), (f2, aI E 8 fa), (f3, aI E 8 fb), (la, aI E 8 ld), (ad 0, oo 3 (fMa 0 .null (sd 0) (g1 0))), (sd 0, aI E 4 (S 0)), (ad 1, oo 3 (fMa 1 (.ref (ad 0)) (sd 1) (g1 1))), (sd 1, aI E 4 (S 1)), (ad 2, oo 3 (fMa 2 (.ref (ad 1)) (sd 2) (g1 2))), (sd 2, aI E 4 (S 2)), (ad 3, oo 3 (fMa 3 (.ref (ad 2)) (sd 3) (up (g1 3) 0 (if tk = 0 then (g1 3) 0 else (g1 3) 0 - 1)))), (sd 3, aI E 4 (S 3)), (ad 4, oo 3 (fMa 4 (.ref (ad 3)) (sd 4) (finM x cc))), (sd 4, aI E 4 (S 4)), (ad 5, oo 3 (fMa 5 (.ref (ad 4)) (sd 5) (g1 5))), (sd 5, aI E 4 (S 5))]) ?_ (by rw [hF_19]) rfl rfl
      refine g_aload_n 2 dX1_step_41 rfl rfl ?_
      refine g_get (v := .ref (ad 3)) (C := RX3) (T := TX3) (N := 14) 15 1 (fun _ h => List.mem_cons_of_mem _ (List.mem_append_left _ (List.mem_append_right _ h))) (List.mem_of_getElem? (i := 4) rfl) rfl rfl (by decide) rfl rfl dX1_step_42 ?_
      refine g_astore_n (lv1 := [(2, .ref (ad 3)), (0, .ref v), (1, .int (iI go))]) dX1_step_45 rfl (by decide) rfl ?_
      refine g_goto (tgt := 10) dX1_step_46 rfl ?_
      refine g_lv (lv1 := [(0, .ref v), (1, .int (iI go)), (2, .ref (ad 3))]) [1, 2, 0] rfl ?_
      exact K10_3 (ug (ug g1 4 (finM x cc)) 3 (gapM (g1 3) tk)) so1 ta1 (if gd = 0 then go1 else go1 + 1) (by intro g' so' ta' go' h; exact hK _ _ _ _ (sPass_s 4 ⟨x, cc, tk, gd, fst, h⟩)) (by intro j j0 j1; unfold ug; by_cases e : j = 3; (rw [if_pos e]; exact gap_ok (hA 3 (by omega) (by omega)) hok.2.2.1); rw [if_neg e, if_neg (by omega)]; exact hA j j0 (by omega)) (by intro j j0 j1; unfold ug; rw [if_neg (show ¬ j = 3 by omega)]; by_cases e : j = 4; (rw [if_pos e]; exact hok.1); rw [if_neg e]; exact hB j (by omega) j1) (by first | omega | (split <;> omega)) (by first | omega | (split <;> omega))
  have K10_5 : ∀ (g1 : Int → Int → Int) (so1 : Int) (ta1 : Int) (go1 : Int) (hK : ∀ g' so' ta' go', sPass (fun k => fl fm fa fb k ti nf) M ti S 6 g1 so1 ta1 go1 g' so' ta' go' → sPass (fun k => fl fm fa fb k ti nf) M ti S M.toNat g so ta go g' so' ta' go') (hA : ∀ j, 0 ≤ j → j ≤ 5 → kOk ti (g1 j)) (hB : ∀ j, 5 < j → j < 6 → kOk (ti + 1) (g1 j)) (hso1 : 0 ≤ so1 ∧ so1 ≤ 100000) (hgo1 : 0 ≤ go1 ∧ (go1 ≤ ti ∨ (5 < M - 1 ∧ go1 ≤ ti + 1))), G X ({ frames := 4, cells := 0, slots := 0, locals := 84 } : Room) cX1_step 3 RX1 wsX1_step E [] 0 0 [(v, oo 1 [.ref ma, .int (iI M), .ref fo, .ref la, .int (iI ti), .int (iI so1), .int (iI ta1), .int (iI go1), .int (iI sl)]), (ma, aM E 6 mq), (fo, oo 2 [.ref f1, .ref f2, .ref f3, .int (iI nf)]), (f1, aI E 8 fm), (f2, aI E 8 fa), (f3, aI E 8 fb), (la, aI E 8 ld), (ad 0, oo 3 (fMa 0 .null (sd 0) (g1 0))), (sd 0, aI E 4 (S 0)), (ad 1, oo 3 (fMa 1 (.ref (ad 0)) (sd 1) (g1 1))), (sd 1, aI E 4 (S 1)), (ad 2, oo 3 (fMa 2 (.ref (ad 1)) (sd 2) (g1 2))), (sd 2, aI E 4 (S 2)), (ad 3, oo 3 (fMa 3 (.ref (ad 2)) (sd 3) (g1 3))), (sd 3, aI E 4 (S 3)), (ad 4, oo 3 (fMa 4 (.ref (ad 3)) (sd 4) (g1 4))), (sd 4, aI E 4 (S 4)), (ad 5, oo 3 (fMa 5 (.ref (ad 4)) (sd 5) (g1 5))), (sd 5, aI E 4 (S 5))] [(0, .ref v), (1, .int (iI go)), (2, .ref (ad 5))] 10 [] := by
    intro g1 so1 ta1 go1 hK hA hB hso1 hgo1
    refine g_aload_n 2 dX1_step_10 rfl rfl ?_
    refine g_ifnull dX1_step_11 ?_
    refine g_aload_n 2 dX1_step_14 rfl rfl ?_
    refine g_aload_n 0 dX1_step_15 rfl rfl ?_
    refine g_aload_n 2 dX1_step_16 rfl rfl ?_
    refine g_callV_i (n := 1) (As := [.ref (ad 5)]) (wr := [(ma, aM E 6 mq), (la, aI E 8 ld), (ad 0, oo 3 (fMa 0 .null (sd 0) (g1 0))), (sd 0, aI E 4 (S 0)), (ad 1, oo 3 (fMa 1 (.ref (ad 0)) (sd 1) (g1 1))), (sd 1, aI E 4 (S 1)), (ad 2, oo 3 (fMa 2 (.ref (ad 1)) (sd 2) (g1 2))), (sd 2, aI E 4 (S 2)), (ad 3, oo 3 (fMa 3 (.ref (ad 2)) (sd 3) (g1 3))), (sd 3, aI E 4 (S 3)), (sd 4, aI E 4 (S 4))]) (C := RX1) [.ref (ad 5)] (c_step_a E v ma fo la M ti so1 ta1 go1 sl (ad 5) (sd 5) 5 (g1 5) (ad 4) (sd 4) 4 (.ref (ad 3)) (g1 4) (S 5) f1 f2 f3 nf fm fa fb (by omega) (by omega) (by omega) (by omega) (by exact (hA 5 (by omega) (by omega)).1) (by exact (hA 5 (by omega) (by omega)).2.1) (by exact hS 5 (by omega) (by omega)) (by omega) (by exact (hA 4 (by omega) (by omega)).1) (by omega) (by assumption) (by assumption) (by assumption)) [0, 17, 15, 18, 2, 3, 4, 5] [1, 6, 7, 8, 9, 10, 11, 12, 13, 14, 16] 0 rfl rfl gX1_step_X1_stepOf rfl ⟨rfl, by decide +kernel⟩ ⟨by decide, by decide⟩ rfl rfl rfl rfl rfl (by decide) rfl (by decide) (by decide) (fun _ h => absurd h List.not_mem_nil) dX1_step_17 rfl (Nat.le_of_ble_eq_true rfl) ⟨by decide, by decide⟩ (fun r u p_20 => ?_)
    obtain ⟨x, cc, tk, gd, fst, rfl, rfl⟩ := p_20
    refine g_perm (ws1 := [(v, oo 1 [.ref ma, .int (iI M), .ref fo, .ref la, .int (iI ti), .int (iI so1), .int (iI ta1), .int (iI (if gd = 0 then go1 else go1 + 1)), .int (iI sl)]), (ma, aM E 6 mq), (fo, oo 2 [.ref f1, .ref f2, .ref f3, .int (iI nf)]), (f1, aI E 8 fm), (f2, aI E 8 fa), (f3, aI E 8 fb), (la, aI E 8 ld), (ad 0, oo 3 (fMa 0 .null (sd 0) (g1 0))), (sd 0, aI E 4 (S 0)), (ad 1, oo 3 (fMa 1 (.ref (ad 0)) (sd 1) (g1 1))), (sd 1, aI E 4 (S 1)), (ad 2, oo 3 (fMa 2 (.ref (ad 1)) (sd 2) (g1 2))), (sd 2, aI E 4 (S 2)), (ad 3, oo 3 (fMa 3 (.ref (ad 2)) (sd 3) (g1 3))), (sd 3, aI E 4 (S 3)), (ad 4, oo 3 (fMa 4 (.ref (ad 3)) (sd 4) (up (g1 4) 0 (if tk = 0 then (g1 4) 0 else (g1 4) 0 - 1)))), (sd 4, aI E 4 (S 4)), (ad 5, oo 3 (fMa 5 (.ref (ad 4)) (sd 5) cc)), (sd 5, aI E 4 (S 5))]) [11, 0, 15, 16, 17, 18, 1, 2, 3, 4, 5, 6, 7, 8, 9, 13, 10, 12, 14] rfl (by decide) rfl ?_
    have hok := sStep_ok (t := ti) fst (hA 5 (by omega) (by omega)) (hS 5 (by omega) (by omega)) (by omega) (by omega) (by omega) (by have q9 := (hA 4 (by omega) (by omega)).1; unfold mOk at q9; omega)
    have hgd := sStep_gd fst
    refine g_put (C := RX3) (T := TX3) (N := 14) (ws1 := [(v, oo 1 [.ref ma, .int (iI M), .ref fo, .ref la, .int (iI ti), .int (iI so1), .int (iI ta1), .int (iI (if gd = 0 then go1 else go1 + 1)), .int (iI sl)]), (ma, aM E 6 mq), (fo, oo 2 [.ref f1, .ref f2, .ref f3, .int (iI nf)]), (f1, aI E 8 fm), (f2, aI E 8 fa), (f3, aI E 8 fb), (la, aI E 8 ld), (ad 0, oo 3 (fMa 0 .null (sd 0) (g1 0))), (sd 0, aI E 4 (S 0)), (ad 1, oo 3 (fMa 1 (.ref (ad 0)) (sd 1) (g1 1))), (sd 1, aI E 4 (S 1)), (ad 2, oo 3 (fMa 2 (.ref (ad 1)) (sd 2) (g1 2))), (sd 2, aI E 4 (S 2)), (ad 3, oo 3 (fMa 3 (.ref (ad 2)) (sd 3) (g1 3))), (sd 3, aI E 4 (S 3)), (ad 4, oo 3 (fMa 4 (.ref (ad 3)) (sd 4) (up (g1 4) 0 (if tk = 0 then (g1 4) 0 else (g1 4) 0 - 1)))), (sd 4, aI E 4 (S 4)), (ad 5, oo 3 (fMa 5 (.ref (ad 4)) (sd 5) (up cc 9 x))), (sd 5, aI E 4 (S 5))]) 17 12 (fun _ h => List.mem_cons_of_mem _ (List.mem_append_left _ (List.mem_append_right _ h))) tyX3 tyX3_ok nmX3 (List.mem_of_getElem? (i := 2) rfl) rfl rfl (by decide) rfl (tyX3_ok 12 (by decide)) rfl rfl (by first | decide | exact Nat.le_of_ble_eq_true rfl) dX1_step_20 rfl rfl ?_
    refine g_aload_n 2 dX1_step_23 rfl rfl ?_
    refine g_get (v := .int (iI x)) (C := RX3) (T := TX3) (N := 14) 17 12 (fun _ h => List.mem_cons_of_mem _ (List.mem_append_left _ (List.mem_append_right _ h))) (List.mem_of_getElem? (i := 2) rfl) rfl rfl (by decide) rfl rfl dX1_step_24 ?_
    refine g_iconst dX1_step_27 ?_
    refine g_icmp_ne (tgt := 41) (by unfold R32; omega) (by unfold R32; omega) dX1_step_28 rfl (fun hx3 => ?_) (fun hx3 => ?_)
    · refine g_aload_n 2 dX1_step_31 rfl rfl ?_
      refine g_dup dX1_step_32 rfl ?_
      refine g_get (v := .int (iI (cc 10))) (C := RX3) (T := TX3) (N := 14) 17 13 (fun _ h => List.mem_cons_of_mem _ (List.mem_append_left _ (List.mem_append_right _ h))) (List.mem_of_getElem? (i := 3) rfl) rfl rfl (by decide) rfl rfl dX1_step_33 ?_
      refine g_iconst dX1_step_36 ?_
      refine g_iadd dX1_step_37 ?_
      refine g_put (C := RX3) (T := TX3) (N := 14) (ws1 := [(v, oo 1 [.ref ma, .int (iI M), .ref fo, .ref la, .int (iI ti), .int (iI so1), .int (iI ta1), .int (iI (if gd = 0 then go1 else go1 + 1)), .int (iI sl)]), (ma, aM E 6 mq), (fo, oo 2 [.ref f1, .ref f2, .ref f3, .int (iI nf)]), (f1, aI E 8 fm), (f2, aI E 8 fa), (f3, aI E 8 fb), (la, aI E 8 ld), (ad 0, oo 3 (fMa 0 .null (sd 0) (g1 0))), (sd 0, aI E 4 (S 0)), (ad 1, oo 3 (fMa 1 (.ref (ad 0)) (sd 1) (g1 1))), (sd 1, aI E 4 (S 1)), (ad 2, oo 3 (fMa 2 (.ref (ad 1)) (sd 2) (g1 2))), (sd 2, aI E 4 (S 2)), (ad 3, oo 3 (fMa 3 (.ref (ad 2)) (sd 3) (g1 3))), (sd 3, aI E 4 (S 3)), (ad 4, oo 3 (fMa 4 (.ref (ad 3)) (sd 4) (up (g1 4) 0 (if tk = 0 then (g1 4) 0 else (g1 4) 0 - 1)))), (sd 4, aI E 4 (S 4)), (ad 5, oo 3 (fMa 5 (.ref (ad 4)) (sd 5) (up (up cc 9 x) 10 ((cc 10) + 1)))), (sd 5, aI E 4 (S 5))]) 17 13 (fun _ h => List.mem_cons_of_mem _ (List.mem_append_left _ (List.mem_append_right _ h))) tyX3 tyX3_ok nmX3 (List.mem_of_getElem? (i := 3) rfl) rfl rfl (by decide) rfl (tyX3_ok 13 (by decide)) rfl rfl (by first | decide | exact Nat.le_of_ble_eq_true rfl) dX1_step_38 rfl rfl ?_
      have hF_21 : finM x cc = up (up cc 9 x) 10 ((cc 10) + 1) := by unfold finM; first | (rw [if_pos (by assumption)]; done) | (rw [if_neg (by assumption)]; done)
      refine g_as (ws1 := [(v, oo 1 [.ref ma, .int (iI M), .ref fo, .ref la, .int (iI ti), .int (iI so1), .int (iI ta1), .int (iI (if gd = 0 then go1 else go1 + 1)), .int (iI sl)]), (ma, aM E 6 mq), (fo, oo 2 [.ref f1, .ref f2, .ref f3, .int (iI nf)]), (f1, aI E 8 fm), (f2, aI E 8 fa), (f3, aI E 8 fb), (la, aI E 8 ld), (ad 0, oo 3 (fMa 0 .null (sd 0) (g1 0))), (sd 0, aI E 4 (S 0)), (ad 1, oo 3 (fMa 1 (.ref (ad 0)) (sd 1) (g1 1))), (sd 1, aI E 4 (S 1)), (ad 2, oo 3 (fMa 2 (.ref (ad 1)) (sd 2) (g1 2))), (sd 2, aI E 4 (S 2)), (ad 3, oo 3 (fMa 3 (.ref (ad 2)) (sd 3) (g1 3))), (sd 3, aI E 4 (S 3)), (ad 4, oo 3 (fMa 4 (.ref (ad 3)) (sd 4) (up (g1 4) 0 (if tk = 0 then (g1 4) 0 else (g1 4) 0 - 1)))), (sd 4, aI E 4 (S 4)), (ad 5, oo 3 (fMa 5 (.ref (ad 4)) (sd 5) (finM x cc))), (sd 5, aI E 4 (S 5))]) ?_ (by rw [hF_21]) rfl rfl
      refine g_aload_n 2 dX1_step_41 rfl rfl ?_
      refine g_get (v := .ref (ad 4)) (C := RX3) (T := TX3) (N := 14) 17 1 (fun _ h => List.mem_cons_of_mem _ (List.mem_append_left _ (List.mem_append_right _ h))) (List.mem_of_getElem? (i := 4) rfl) rfl rfl (by decide) rfl rfl dX1_step_42 ?_
      refine g_astore_n (lv1 := [(2, .ref (ad 4)), (0, .ref v), (1, .int (iI go))]) dX1_step_45 rfl (by decide) rfl ?_
      refine g_goto (tgt := 10) dX1_step_46 rfl ?_
      refine g_lv (lv1 := [(0, .ref v), (1, .int (iI go)), (2, .ref (ad 4))]) [1, 2, 0] rfl ?_
      exact K10_4 (ug (ug g1 5 (finM x cc)) 4 (gapM (g1 4) tk)) so1 ta1 (if gd = 0 then go1 else go1 + 1) (by intro g' so' ta' go' h; exact hK _ _ _ _ (sPass_s 5 ⟨x, cc, tk, gd, fst, h⟩)) (by intro j j0 j1; unfold ug; by_cases e : j = 4; (rw [if_pos e]; exact gap_ok (hA 4 (by omega) (by omega)) hok.2.2.1); rw [if_neg e, if_neg (by omega)]; exact hA j j0 (by omega)) (by intro j j0 j1; unfold ug; rw [if_neg (show ¬ j = 4 by omega)]; by_cases e : j = 5; (rw [if_pos e]; exact hok.1); rw [if_neg e]; exact hB j (by omega) j1) (by first | omega | (split <;> omega)) (by first | omega | (split <;> omega))
    · have hF_22 : finM x cc = up cc 9 x := by unfold finM; first | (rw [if_pos (by assumption)]; done) | (rw [if_neg (by assumption)]; done)
      refine g_as (ws1 := [(v, oo 1 [.ref ma, .int (iI M), .ref fo, .ref la, .int (iI ti), .int (iI so1), .int (iI ta1), .int (iI (if gd = 0 then go1 else go1 + 1)), .int (iI sl)]), (ma, aM E 6 mq), (fo, oo 2 [.ref f1, .ref f2, .ref f3, .int (iI nf)]), (f1, aI E 8 fm), (f2, aI E 8 fa), (f3, aI E 8 fb), (la, aI E 8 ld), (ad 0, oo 3 (fMa 0 .null (sd 0) (g1 0))), (sd 0, aI E 4 (S 0)), (ad 1, oo 3 (fMa 1 (.ref (ad 0)) (sd 1) (g1 1))), (sd 1, aI E 4 (S 1)), (ad 2, oo 3 (fMa 2 (.ref (ad 1)) (sd 2) (g1 2))), (sd 2, aI E 4 (S 2)), (ad 3, oo 3 (fMa 3 (.ref (ad 2)) (sd 3) (g1 3))), (sd 3, aI E 4 (S 3)), (ad 4, oo 3 (fMa 4 (.ref (ad 3)) (sd 4) (up (g1 4) 0 (if tk = 0 then (g1 4) 0 else (g1 4) 0 - 1)))), (sd 4, aI E 4 (S 4)), (ad 5, oo 3 (fMa 5 (.ref (ad 4)) (sd 5) (finM x cc))), (sd 5, aI E 4 (S 5))]) ?_ (by rw [hF_22]) rfl rfl
      refine g_aload_n 2 dX1_step_41 rfl rfl ?_
      refine g_get (v := .ref (ad 4)) (C := RX3) (T := TX3) (N := 14) 17 1 (fun _ h => List.mem_cons_of_mem _ (List.mem_append_left _ (List.mem_append_right _ h))) (List.mem_of_getElem? (i := 4) rfl) rfl rfl (by decide) rfl rfl dX1_step_42 ?_
      refine g_astore_n (lv1 := [(2, .ref (ad 4)), (0, .ref v), (1, .int (iI go))]) dX1_step_45 rfl (by decide) rfl ?_
      refine g_goto (tgt := 10) dX1_step_46 rfl ?_
      refine g_lv (lv1 := [(0, .ref v), (1, .int (iI go)), (2, .ref (ad 4))]) [1, 2, 0] rfl ?_
      exact K10_4 (ug (ug g1 5 (finM x cc)) 4 (gapM (g1 4) tk)) so1 ta1 (if gd = 0 then go1 else go1 + 1) (by intro g' so' ta' go' h; exact hK _ _ _ _ (sPass_s 5 ⟨x, cc, tk, gd, fst, h⟩)) (by intro j j0 j1; unfold ug; by_cases e : j = 4; (rw [if_pos e]; exact gap_ok (hA 4 (by omega) (by omega)) hok.2.2.1); rw [if_neg e, if_neg (by omega)]; exact hA j j0 (by omega)) (by intro j j0 j1; unfold ug; rw [if_neg (show ¬ j = 4 by omega)]; by_cases e : j = 5; (rw [if_pos e]; exact hok.1); rw [if_neg e]; exact hB j (by omega) j1) (by first | omega | (split <;> omega)) (by first | omega | (split <;> omega))
  refine g_aload_n 0 dX1_step_0 rfl rfl ?_
  refine g_get (C := RX1) (T := TX1) (N := 9) 0 7 (fun _ h => List.mem_cons_of_mem _ (List.mem_append_left _ (List.mem_append_left _ (List.mem_append_right _ h)))) (List.mem_of_getElem? (i := 1) rfl) rfl rfl (by decide) rfl rfl dX1_step_1 ?_
  refine g_istore_n (lv1 := [(1, .int (iI go)), (0, .ref v)]) dX1_step_4 rfl (by decide) rfl ?_
  refine g_aload_n 1 dX1_step_5 rfl rfl ?_
  refine g_callV_q (n := 0) (As := []) (wr := [(fo, oo 2 [.ref f1, .ref f2, .ref f3, .int (iI nf)]), (f1, aI E 8 fm), (f2, aI E 8 fa), (f3, aI E 8 fb), (la, aI E 8 ld), (ad 0, oo 3 (fMa 0 .null (sd 0) (g 0))), (sd 0, aI E 4 (S 0)), (ad 1, oo 3 (fMa 1 (.ref (ad 0)) (sd 1) (g 1))), (sd 1, aI E 4 (S 1)), (ad 2, oo 3 (fMa 2 (.ref (ad 1)) (sd 2) (g 2))), (sd 2, aI E 4 (S 2)), (ad 3, oo 3 (fMa 3 (.ref (ad 2)) (sd 3) (g 3))), (sd 3, aI E 4 (S 3)), (ad 4, oo 3 (fMa 4 (.ref (ad 3)) (sd 4) (g 4))), (sd 4, aI E 4 (S 4)), (ad 5, oo 3 (fMa 5 (.ref (ad 4)) (sd 5) (g 5))), (sd 5, aI E 4 (S 5))]) (C := RX1) [] (c_X1_last E v ma fo la M ti so ta go sl mq ad (by omega) (by omega) (by omega) (by omega) (by exact hmq)) [0, 1] [2, 3, 4, 5, 6, 7, 8, 9, 10, 11, 12, 13, 14, 15, 16, 17, 18] 0 rfl rfl gX1_step_X1_last rfl ⟨rfl, by decide +kernel⟩ ⟨by decide, by decide⟩ rfl rfl rfl rfl rfl (by decide) rfl (by decide) (by decide) (fun _ h => absurd h List.not_mem_nil) dX1_step_6 rfl (Nat.le_of_ble_eq_true rfl) ⟨by decide, by decide⟩ (fun r u p_23 => ?_)
  obtain ⟨rfl, rfl⟩ := p_23
  refine g_perm (ws1 := [(v, oo 1 [.ref ma, .int (iI M), .ref fo, .ref la, .int (iI ti), .int (iI so), .int (iI ta), .int (iI go), .int (iI sl)]), (ma, aM E 6 mq), (fo, oo 2 [.ref f1, .ref f2, .ref f3, .int (iI nf)]), (f1, aI E 8 fm), (f2, aI E 8 fa), (f3, aI E 8 fb), (la, aI E 8 ld), (ad 0, oo 3 (fMa 0 .null (sd 0) (g 0))), (sd 0, aI E 4 (S 0)), (ad 1, oo 3 (fMa 1 (.ref (ad 0)) (sd 1) (g 1))), (sd 1, aI E 4 (S 1)), (ad 2, oo 3 (fMa 2 (.ref (ad 1)) (sd 2) (g 2))), (sd 2, aI E 4 (S 2)), (ad 3, oo 3 (fMa 3 (.ref (ad 2)) (sd 3) (g 3))), (sd 3, aI E 4 (S 3)), (ad 4, oo 3 (fMa 4 (.ref (ad 3)) (sd 4) (g 4))), (sd 4, aI E 4 (S 4)), (ad 5, oo 3 (fMa 5 (.ref (ad 4)) (sd 5) (g 5))), (sd 5, aI E 4 (S 5))]) [17, 18, 0, 1, 2, 3, 4, 5, 6, 7, 8, 9, 10, 11, 12, 13, 14, 15, 16] rfl (by decide) rfl ?_
  rcases (show M = 2 ∨ M = 3 ∨ M = 4 ∨ M = 5 ∨ M = 6 by omega) with hMk | hMk | hMk | hMk | hMk
  · refine g_as (st1 := [.ref (ad 1)]) ?_ rfl rfl (by rw [hMk]; rfl)
    refine g_astore_n (lv1 := [(2, .ref (ad 1)), (1, .int (iI go)), (0, .ref v)]) dX1_step_9 rfl (by decide) rfl ?_
    refine g_lv (lv1 := [(0, .ref v), (1, .int (iI go)), (2, .ref (ad 1))]) [2, 1, 0] rfl ?_
    exact K10_1 g so ta go (by intro g' so' ta' go' h; rw [show M.toNat = 2 by omega]; exact h) (by intro j j0 j1; exact hgk j j0 (by omega)) (by intro j j0 j1; exact kOk_w (hgk j (by omega) j1)) (by omega) (by omega)
  · refine g_as (st1 := [.ref (ad 2)]) ?_ rfl rfl (by rw [hMk]; rfl)
    refine g_astore_n (lv1 := [(2, .ref (ad 2)), (1, .int (iI go)), (0, .ref v)]) dX1_step_9 rfl (by decide) rfl ?_
    refine g_lv (lv1 := [(0, .ref v), (1, .int (iI go)), (2, .ref (ad 2))]) [2, 1, 0] rfl ?_
    exact K10_2 g so ta go (by intro g' so' ta' go' h; rw [show M.toNat = 3 by omega]; exact h) (by intro j j0 j1; exact hgk j j0 (by omega)) (by intro j j0 j1; exact kOk_w (hgk j (by omega) j1)) (by omega) (by omega)
  · refine g_as (st1 := [.ref (ad 3)]) ?_ rfl rfl (by rw [hMk]; rfl)
    refine g_astore_n (lv1 := [(2, .ref (ad 3)), (1, .int (iI go)), (0, .ref v)]) dX1_step_9 rfl (by decide) rfl ?_
    refine g_lv (lv1 := [(0, .ref v), (1, .int (iI go)), (2, .ref (ad 3))]) [2, 1, 0] rfl ?_
    exact K10_3 g so ta go (by intro g' so' ta' go' h; rw [show M.toNat = 4 by omega]; exact h) (by intro j j0 j1; exact hgk j j0 (by omega)) (by intro j j0 j1; exact kOk_w (hgk j (by omega) j1)) (by omega) (by omega)
  · refine g_as (st1 := [.ref (ad 4)]) ?_ rfl rfl (by rw [hMk]; rfl)
    refine g_astore_n (lv1 := [(2, .ref (ad 4)), (1, .int (iI go)), (0, .ref v)]) dX1_step_9 rfl (by decide) rfl ?_
    refine g_lv (lv1 := [(0, .ref v), (1, .int (iI go)), (2, .ref (ad 4))]) [2, 1, 0] rfl ?_
    exact K10_4 g so ta go (by intro g' so' ta' go' h; rw [show M.toNat = 5 by omega]; exact h) (by intro j j0 j1; exact hgk j j0 (by omega)) (by intro j j0 j1; exact kOk_w (hgk j (by omega) j1)) (by omega) (by omega)
  · refine g_as (st1 := [.ref (ad 5)]) ?_ rfl rfl (by rw [hMk]; rfl)
    refine g_astore_n (lv1 := [(2, .ref (ad 5)), (1, .int (iI go)), (0, .ref v)]) dX1_step_9 rfl (by decide) rfl ?_
    refine g_lv (lv1 := [(0, .ref v), (1, .int (iI go)), (2, .ref (ad 5))]) [2, 1, 0] rfl ?_
    exact K10_5 g so ta go (by intro g' so' ta' go' h; rw [show M.toNat = 6 by omega]; exact h) (by intro j j0 j1; exact hgk j j0 (by omega)) (by intro j j0 j1; exact kOk_w (hgk j (by omega) j1)) (by omega) (by omega)

end CONV
