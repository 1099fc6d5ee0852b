section CONV
def ug (g : Int → Int → Int) (k : Int) (c : Int → Int) : Int → Int → Int := fun j => if j = k then c else g j
def kOk (t : Int) (c : Int → Int) : Prop := mOk c ∧ c 3 ≤ 4 ∧ c 7 ≤ t ∧ c 8 ≤ t ∧ (c 1 = 1 ∨ c 3 = 0) ∧ (c 1 = 0 ∨ c 2 = 0)
def cau (g : Int → Int → Int) : Nat → Int
  | 0 => 7
  | k + 1 => if g (k : Int) 9 = 4 then cau g k else if g (k : Int) 9 = 3 then 6 else (k : Int)
def sLay (M : Int) (g : Int → Int → Int) (sl : Int) (ld : Int → Int) (sl' : Int) (ld' : Int → Int) : Prop :=
  if g (M - 1) 9 = 3 then sl' = sl ∧ ld' = ld else sl' = sl + 1 ∧ ld' = up ld (cau g M.toNat) (ld (cau g M.toNat) + 1)

set_option maxHeartbeats 4000000 in
set_option maxRecDepth 100000 in
theorem c_X1_layOnCause (E : Ev) (v : Nat) (ma : Nat) (fo : Nat) (la : Nat) (M : Int) (ti : Int) (so : Int) (ta : Int) (go : Int) (sl : Int) (mq : Int → Option Nat) (ad : Int → Nat) (sd : Int → Nat) (g : Int → Int → Int) (ld : Int → Int) (hM : 2 ≤ M ∧ M ≤ 6) (hti : 0 ≤ ti ∧ ti ≤ 10000) (hso : 0 ≤ so ∧ so ≤ 100000) (hgo : 0 ≤ go ∧ go ≤ 20000) (hmq : ∀ k, 0 ≤ k → k < 6 → mq k = some (ad k)) (hgk : ∀ j, 0 ≤ j → j < 6 → mOk (g j)) : MV yX1_layOnCause wsX1_layOnCause ({ frames := 2, cells := 0, slots := 0, locals := 41 } : Room) E [] 0 0 [.ref v] [(v, oo 1 [.ref ma, .int (iI M), .ref fo, .ref la, .int (iI ti), .int (iI so), .int (iI ta), .int (iI go), .int (iI sl)]), (ma, aM E 6 mq), (la, aI E 8 ld), (ad 0, oo 3 (fMa 0 .null (sd 0) (g 0))), (ad 1, oo 3 (fMa 1 (.ref (ad 0)) (sd 1) (g 1))), (ad 2, oo 3 (fMa 2 (.ref (ad 1)) (sd 2) (g 2))), (ad 3, oo 3 (fMa 3 (.ref (ad 2)) (sd 3) (g 3))), (ad 4, oo 3 (fMa 4 (.ref (ad 3)) (sd 4) (g 4))), (ad 5, oo 3 (fMa 5 (.ref (ad 4)) (sd 5) (g 5)))] (fun u => ∃ (sl' : Int), ∃ (ld' : Int → Int), sLay M g sl ld sl' ld' ∧ u = [(v, oo 1 [.ref ma, .int (iI M), .ref fo, .ref la, .int (iI ti), .int (iI so), .int (iI ta), .int (iI go), .int (iI sl')]), (ma, aM E 6 mq), (la, aI E 8 ld'), (ad 0, oo 3 (fMa 0 .null (sd 0) (g 0))), (ad 1, oo 3 (fMa 1 (.ref (ad 0)) (sd 1) (g 1))), (ad 2, oo 3 (fMa 2 (.ref (ad 1)) (sd 2) (g 2))), (ad 3, oo 3 (fMa 3 (.ref (ad 2)) (sd 3) (g 3))), (ad 4, oo 3 (fMa 4 (.ref (ad 3)) (sd 4) (g 4))), (ad 5, oo 3 (fMa 5 (.ref (ad 4)) (sd 5) (g 5)))]) := by
  refine MV.of (cc := cX1_layOnCause) (maxL := 2) (own := RX1) (by decide) rfl rfl rfl (Nat.le_of_ble_eq_true rfl) [(0, .ref v)] rfl ?_
  intro X hin2 hRet
  have p0 : -4 ≤ g 0 9 ∧ g 0 9 ≤ 4 := by have q9 := hgk 0 (by omega) (by omega); unfold mOk at q9; omega
  have p1 : -4 ≤ g 1 9 ∧ g 1 9 ≤ 4 := by have q9 := hgk 1 (by omega) (by omega); unfold mOk at q9; omega
  have p2 : -4 ≤ g 2 9 ∧ g 2 9 ≤ 4 := by have q9 := hgk 2 (by omega) (by omega); unfold mOk at q9; omega
  have p3 : -4 ≤ g 3 9 ∧ g 3 9 ≤ 4 := by have q9 := hgk 3 (by omega) (by omega); unfold mOk at q9; omega
  have p4 : -4 ≤ g 4 9 ∧ g 4 9 ≤ 4 := by have q9 := hgk 4 (by omega) (by omega); unfold mOk at q9; omega
  have p5 : -4 ≤ g 5 9 ∧ g 5 9 ≤ 4 := by have q9 := hgk 5 (by omega) (by omega); unfold mOk at q9; omega
  have K28_N : ∀  (hcau : cau g M.toNat = cau g 0) (hst : ¬ g (M - 1) 9 = 3), G X ({ frames := 2, cells := 0, slots := 0, locals := 41 } : Room) cX1_layOnCause 2 RX1 wsX1_layOnCause E [] 0 0 [(v, oo 1 [.ref ma, .int (iI M), .ref fo, .ref la, .int (iI ti), .int (iI so), .int (iI ta), .int (iI go), .int (iI (sl + 1))]), (ma, aM E 6 mq), (la, aI E 8 ld), (ad 0, oo 3 (fMa 0 .null (sd 0) (g 0))), (ad 1, oo 3 (fMa 1 (.ref (ad 0)) (sd 1) (g 1))), (ad 2, oo 3 (fMa 2 (.ref (ad 1)) (sd 2) (g 2))), (ad 3, oo 3 (fMa 3 (.ref (ad 2)) (sd 3) (g 3))), (ad 4, oo 3 (fMa 4 (.ref (ad 3)) (sd 4) (g 4))), (ad 5, oo 3 (fMa 5 (.ref (ad 4)) (sd 5) (g 5)))] [(0, .ref v), (1, .null)] 28 [] := by
    intro  hcau hst
    refine g_aload_nN 1 dX1_layOnCause_28 rfl rfl ?_
    refine g_ifnullN (tgt := 48) dX1_layOnCause_29 rfl ?_
    refine g_aload_nN 1 dX1_layOnCause_48 rfl rfl ?_
    refine g_ifnonnullN dX1_layOnCause_49 ?_
    refine g_aload_n 0 dX1_layOnCause_52 rfl rfl ?_
    refine g_get (C := RX1) (T := TX1) (N := 9) 0 3 (fun _ h => List.mem_cons_of_mem _ (List.mem_append_right _ h)) (List.mem_of_getElem? (i := 4) rfl) rfl rfl (by decide) rfl rfl dX1_layOnCause_53 ?_
    refine g_bipush dX1_layOnCause_56 rfl ?_
    refine g_dup2 dX1_layOnCause_58 rfl rfl ?_
    refine g_iald 2 dX1_layOnCause_59 rfl (by decide) (by omega) (by omega) ?_
    refine g_iconst dX1_layOnCause_60 ?_
    refine g_iadd dX1_layOnCause_61 ?_
    refine g_iast (ws1 := [(v, oo 1 [.ref ma, .int (iI M), .ref fo, .ref la, .int (iI ti), .int (iI so), .int (iI ta), .int (iI go), .int (iI (sl + 1))]), (ma, aM E 6 mq), (la, aI E 8 (up ld 7 ((ld 7) + 1))), (ad 0, oo 3 (fMa 0 .null (sd 0) (g 0))), (ad 1, oo 3 (fMa 1 (.ref (ad 0)) (sd 1) (g 1))), (ad 2, oo 3 (fMa 2 (.ref (ad 1)) (sd 2) (g 2))), (ad 3, oo 3 (fMa 3 (.ref (ad 2)) (sd 3) (g 3))), (ad 4, oo 3 (fMa 4 (.ref (ad 3)) (sd 4) (g 4))), (ad 5, oo 3 (fMa 5 (.ref (ad 4)) (sd 5) (g 5)))]) 2 dX1_layOnCause_62 rfl rfl (by decide) (by omega) (by omega) ?_
    refine g_goto (tgt := 113) dX1_layOnCause_63 rfl ?_
    exact g_vret hRet dX1_layOnCause_113 ⟨(sl + 1), (up ld 7 ((ld 7) + 1)), (by unfold sLay; rw [if_neg hst]; refine ⟨rfl, ?_⟩; rw [hcau]; first | rfl | (show _ = up ld (if _ then _ else _) (ld (if _ then _ else _) + 1); first | (rw [if_neg (by assumption), if_pos (by assumption)]; done) | (rw [if_neg (by assumption), if_neg (by assumption)]; rfl))), rfl⟩
  have K28_0 : ∀  (hcau : cau g M.toNat = cau g 1) (hst : ¬ g (M - 1) 9 = 3), G X ({ frames := 2, cells := 0, slots := 0, locals := 41 } : Room) cX1_layOnCause 2 RX1 wsX1_layOnCause E [] 0 0 [(v, oo 1 [.ref ma, .int (iI M), .ref fo, .ref la, .int (iI ti), .int (iI so), .int (iI ta), .int (iI go), .int (iI (sl + 1))]), (ma, aM E 6 mq), (la, aI E 8 ld), (ad 0, oo 3 (fMa 0 .null (sd 0) (g 0))), (ad 1, oo 3 (fMa 1 (.ref (ad 0)) (sd 1) (g 1))), (ad 2, oo 3 (fMa 2 (.ref (ad 1)) (sd 2) (g 2))), (ad 3, oo 3 (fMa 3 (.ref (ad 2)) (sd 3) (g 3))), (ad 4, oo 3 (fMa 4 (.ref (ad 3)) (sd 4) (g 4))), (ad 5, oo 3 (fMa 5 (.ref (ad 4)) (sd 5) (g 5)))] [(0, .ref v), (1, .ref (ad 0))] 28 [] := by
    intro  hcau hst
    refine g_aload_n 1 dX1_layOnCause_28 rfl rfl ?_
    refine g_ifnull dX1_layOnCause_29 ?_
    refine g_aload_n 1 dX1_layOnCause_32 rfl rfl ?_
    refine g_get (v := .int (iI ((g 0) 9))) (C := RX3) (T := TX3) (N := 14) 3 12 (fun _ h => List.mem_cons_of_mem _ (List.mem_append_left _ (List.mem_append_right _ h))) (List.mem_of_getElem? (i := 1) rfl) rfl rfl (by decide) rfl rfl dX1_layOnCause_33 ?_
    refine g_iconst dX1_layOnCause_36 ?_
    refine g_icmp_ne (tgt := 48) (by unfold R32; omega) (by unfold R32; omega) dX1_layOnCause_37 rfl (fun c_1 => ?_) (fun c_1 => ?_)
    · refine g_aload_n 1 dX1_layOnCause_40 rfl rfl ?_
      refine g_get (v := .null) (C := RX3) (T := TX3) (N := 14) 3 1 (fun _ h => List.mem_cons_of_mem _ (List.mem_append_left _ (List.mem_append_right _ h))) (List.mem_of_getElem? (i := 3) rfl) rfl rfl (by decide) rfl rfl dX1_layOnCause_41 ?_
      refine g_astore_nN (lv1 := [(1, .null), (0, .ref v)]) dX1_layOnCause_44 rfl (by decide) rfl ?_
      refine g_goto (tgt := 28) dX1_layOnCause_45 rfl ?_
      refine g_lv (lv1 := [(0, .ref v), (1, .null)]) [1, 0] rfl ?_
      exact K28_N  (by rw [hcau]; show (if _ then _ else _) = _; rw [if_pos (by assumption)]) (by exact hst)
    · refine g_aload_n 1 dX1_layOnCause_48 rfl rfl ?_
      refine g_ifnonnull (tgt := 66) dX1_layOnCause_49 rfl ?_
      refine g_aload_n 1 dX1_layOnCause_66 rfl rfl ?_
      refine g_get (v := .int (iI ((g 0) 9))) (C := RX3) (T := TX3) (N := 14) 3 12 (fun _ h => List.mem_cons_of_mem _ (List.mem_append_left _ (List.mem_append_right _ h))) (List.mem_of_getElem? (i := 1) rfl) rfl rfl (by decide) rfl rfl dX1_layOnCause_67 ?_
      refine g_iconst dX1_layOnCause_70 ?_
      refine g_icmp_ne (tgt := 88) (by unfold R32; omega) (by unfold R32; omega) dX1_layOnCause_71 rfl (fun c_2 => ?_) (fun c_2 => ?_)
      · refine g_aload_n 0 dX1_layOnCause_74 rfl rfl ?_
        refine g_get (C := RX1) (T := TX1) (N := 9) 0 3 (fun _ h => List.mem_cons_of_mem _ (List.mem_append_right _ h)) (List.mem_of_getElem? (i := 4) rfl) rfl rfl (by decide) rfl rfl dX1_layOnCause_75 ?_
        refine g_bipush dX1_layOnCause_78 rfl ?_
        refine g_dup2 dX1_layOnCause_80 rfl rfl ?_
        refine g_iald 2 dX1_layOnCause_81 rfl (by decide) (by omega) (by omega) ?_
        refine g_iconst dX1_layOnCause_82 ?_
        refine g_iadd dX1_layOnCause_83 ?_
        refine g_iast (ws1 := [(v, oo 1 [.ref ma, .int (iI M), .ref fo, .ref la, .int (iI ti), .int (iI so), .int (iI ta), .int (iI go), .int (iI (sl + 1))]), (ma, aM E 6 mq), (la, aI E 8 (up ld 6 ((ld 6) + 1))), (ad 0, oo 3 (fMa 0 .null (sd 0) (g 0))), (ad 1, oo 3 (fMa 1 (.ref (ad 0)) (sd 1) (g 1))), (ad 2, oo 3 (fMa 2 (.ref (ad 1)) (sd 2) (g 2))), (ad 3, oo 3 (fMa 3 (.ref (ad 2)) (sd 3) (g 3))), (ad 4, oo 3 (fMa 4 (.ref (ad 3)) (sd 4) (g 4))), (ad 5, oo 3 (fMa 5 (.ref (ad 4)) (sd 5) (g 5)))]) 2 dX1_layOnCause_84 rfl rfl (by decide) (by omega) (by omega) ?_
        refine g_goto (tgt := 113) dX1_layOnCause_85 rfl ?_
        exact g_vret hRet dX1_layOnCause_113 ⟨(sl + 1), (up ld 6 ((ld 6) + 1)), (by unfold sLay; rw [if_neg hst]; refine ⟨rfl, ?_⟩; rw [hcau]; first | rfl | (show _ = up ld (if _ then _ else _) (ld (if _ then _ else _) + 1); first | (rw [if_neg (by assumption), if_pos (by assumption)]; done) | (rw [if_neg (by assumption), if_neg (by assumption)]; rfl))), rfl⟩
      · refine g_aload_n 1 dX1_layOnCause_88 rfl rfl ?_
        refine g_get (v := .int (iI 0)) (C := RX3) (T := TX3) (N := 14) 3 0 (fun _ h => List.mem_cons_of_mem _ (List.mem_append_left _ (List.mem_append_right _ h))) (List.mem_of_getElem? (i := 5) rfl) rfl rfl (by decide) rfl rfl dX1_layOnCause_89 ?_
        refine g_iconst dX1_layOnCause_92 ?_
        refine g_iconst dX1_layOnCause_93 ?_
        refine g_callN_i (n := 3) (As := [.int (iI 0), .int (iI 0), .int (iI 5)]) (wr := [(v, oo 1 [.ref ma, .int (iI M), .ref fo, .ref la, .int (iI ti), .int (iI so), .int (iI ta), .int (iI go), .int (iI (sl + 1))]), (ma, aM E 6 mq), (la, aI E 8 ld), (ad 0, oo 3 (fMa 0 .null (sd 0) (g 0))), (ad 1, oo 3 (fMa 1 (.ref (ad 0)) (sd 1) (g 1))), (ad 2, oo 3 (fMa 2 (.ref (ad 1)) (sd 2) (g 2))), (ad 3, oo 3 (fMa 3 (.ref (ad 2)) (sd 3) (g 3))), (ad 4, oo 3 (fMa 4 (.ref (ad 3)) (sd 4) (g 4))), (ad 5, oo 3 (fMa 5 (.ref (ad 4)) (sd 5) (g 5)))]) [] (c_X6_within E 0 0 5 (by omega) (by omega) (by omega)) [] [0, 1, 2, 3, 4, 5, 6, 7, 8] gX1_layOnCause_X6_within_n130 (fun _ h => h.2.2.2.2.1) (List.mem_of_getElem? (i := 18) rfl) (List.mem_of_getElem? (i := 17) rfl) rfl (by decide +kernel) ⟨by decide, by decide⟩ rfl rfl rfl rfl rfl (by decide) rfl (by decide) (by decide) (fun _ h => absurd h List.not_mem_nil) dX1_layOnCause_94 rfl (Nat.le_of_ble_eq_true rfl) ⟨by decide, by decide⟩ (fun r u p_3 => ?_)
        obtain ⟨rfl, rfl⟩ := p_3
        refine g_perm (ws1 := [(v, oo 1 [.ref ma, .int (iI M), .ref fo, .ref la, .int (iI ti), .int (iI so), .int (iI ta), .int (iI go), .int (iI (sl + 1))]), (ma, aM E 6 mq), (la, aI E 8 ld), (ad 0, oo 3 (fMa 0 .null (sd 0) (g 0))), (ad 1, oo 3 (fMa 1 (.ref (ad 0)) (sd 1) (g 1))), (ad 2, oo 3 (fMa 2 (.ref (ad 1)) (sd 2) (g 2))), (ad 3, oo 3 (fMa 3 (.ref (ad 2)) (sd 3) (g 3))), (ad 4, oo 3 (fMa 4 (.ref (ad 3)) (sd 4) (g 4))), (ad 5, oo 3 (fMa 5 (.ref (ad 4)) (sd 5) (g 5)))]) [0, 1, 2, 3, 4, 5, 6, 7, 8] rfl (by decide) rfl ?_
        refine g_if_eq_b (tgt := 113) dX1_layOnCause_97 rfl (fun _ => ?_) (fun q => absurd (by decide) q)
        refine g_aload_n 0 dX1_layOnCause_100 rfl rfl ?_
        refine g_get (C := RX1) (T := TX1) (N := 9) 0 3 (fun _ h => List.mem_cons_of_mem _ (List.mem_append_right _ h)) (List.mem_of_getElem? (i := 4) rfl) rfl rfl (by decide) rfl rfl dX1_layOnCause_101 ?_
        refine g_aload_n 1 dX1_layOnCause_104 rfl rfl ?_
        refine g_get (v := .int (iI 0)) (C := RX3) (T := TX3) (N := 14) 3 0 (fun _ h => List.mem_cons_of_mem _ (List.mem_append_left _ (List.mem_append_right _ h))) (List.mem_of_getElem? (i := 5) rfl) rfl rfl (by decide) rfl rfl dX1_layOnCause_105 ?_
        refine g_dup2 dX1_layOnCause_108 rfl rfl ?_
        refine g_iald 2 dX1_layOnCause_109 rfl (by decide) (by omega) (by omega) ?_
        refine g_iconst dX1_layOnCause_110 ?_
        refine g_iadd dX1_layOnCause_111 ?_
        refine g_iast (ws1 := [(v, oo 1 [.ref ma, .int (iI M), .ref fo, .ref la, .int (iI ti), .int (iI so), .int (iI ta), .int (iI go), .int (iI (sl + 1))]), (ma, aM E 6 mq), (la, aI E 8 (up ld 0 ((ld 0) + 1))), (ad 0, oo 3 (fMa 0 .null (sd 0) (g 0))), (ad 1, oo 3 (fMa 1 (.ref (ad 0)) (sd 1) (g 1))), (ad 2, oo 3 (fMa 2 (.ref (ad 1)) (sd 2) (g 2))), (ad 3, oo 3 (fMa 3 (.ref (ad 2)) (sd 3) (g 3))), (ad 4, oo 3 (fMa 4 (.ref (ad 3)) (sd 4) (g 4))), (ad 5, oo 3 (fMa 5 (.ref (ad 4)) (sd 5) (g 5)))]) 2 dX1_layOnCause_112 rfl rfl (by decide) (by omega) (by omega) ?_
        exact g_vret hRet dX1_layOnCause_113 ⟨(sl + 1), (up ld 0 ((ld 0) + 1)), (by unfold sLay; rw [if_neg hst]; refine ⟨rfl, ?_⟩; rw [hcau]; first | rfl | (show _ = up ld (if _ then _ else _) (ld (if _ then _ else _) + 1); first | (rw [if_neg (by assumption), if_pos (by assumption)]; done) | (rw [if_neg (by assumption), if_neg (by assumption)]; rfl))), rfl⟩
  have K28_1 : ∀  (hcau : cau g M.toNat = cau g 2) (hst : ¬ g (M - 1) 9 = 3), G X ({ frames := 2, cells := 0, slots := 0, locals := 41 } : Room) cX1_layOnCause 2 RX1 wsX1_layOnCause E [] 0 0 [(v, oo 1 [.ref ma, .int (iI M), .ref fo, .ref la, .int (iI ti), .int (iI so), .int (iI ta), .int (iI go), .int (iI (sl + 1))]), (ma, aM E 6 mq), (la, aI E 8 ld), (ad 0, oo 3 (fMa 0 .null (sd 0) (g 0))), (ad 1, oo 3 (fMa 1 (.ref (ad 0)) (sd 1) (g 1))), (ad 2, oo 3 (fMa 2 (.ref (ad 1)) (sd 2) (g 2))), (ad 3, oo 3 (fMa 3 (.ref (ad 2)) (sd 3) (g 3))), (ad 4, oo 3 (fMa 4 (.ref (ad 3)) (sd 4) (g 4))), (ad 5, oo 3 (fMa 5 (.ref (ad 4)) (sd 5) (g 5)))] [(0, .ref v), (1, .ref (ad 1))] 28 [] := by
    intro  hcau hst
    refine g_aload_n 1 dX1_layOnCause_28 rfl rfl ?_
    refine g_ifnull dX1_layOnCause_29 ?_
    refine g_aload_n 1 dX1_layOnCause_32 rfl rfl ?_
    refine g_get (v := .int (iI ((g 1) 9))) (C := RX3) (T := TX3) (N := 14) 4 12 (fun _ h => List.mem_cons_of_mem _ (List.mem_append_left _ (List.mem_append_right _ h))) (List.mem_of_getElem? (i := 1) rfl) rfl rfl (by decide) rfl rfl dX1_layOnCause_33 ?_
    refine g_iconst dX1_layOnCause_36 ?_
    refine g_icmp_ne (tgt := 48) (by unfold R32; omega) (by unfold R32; omega) dX1_layOnCause_37 rfl (fun c_5 => ?_) (fun c_5 => ?_)
    · refine g_aload_n 1 dX1_layOnCause_40 rfl rfl ?_
      refine g_get (v := .ref (ad 0)) (C := RX3) (T := TX3) (N := 14) 4 1 (fun _ h => List.mem_cons_of_mem _ (List.mem_append_left _ (List.mem_append_right _ h))) (List.mem_of_getElem? (i := 3) rfl) rfl rfl (by decide) rfl rfl dX1_layOnCause_41 ?_
      refine g_astore_n (lv1 := [(1, .ref (ad 0)), (0, .ref v)]) dX1_layOnCause_44 rfl (by decide) rfl ?_
      refine g_goto (tgt := 28) dX1_layOnCause_45 rfl ?_
      refine g_lv (lv1 := [(0, .ref v), (1, .ref (ad 0))]) [1, 0] rfl ?_
      exact K28_0  (by rw [hcau]; show (if _ then _ else _) = _; rw [if_pos (by assumption)]) (by exact hst)
    · refine g_aload_n 1 dX1_layOnCause_48 rfl rfl ?_
      refine g_ifnonnull (tgt := 66) dX1_layOnCause_49 rfl ?_
      refine g_aload_n 1 dX1_layOnCause_66 rfl rfl ?_
      refine g_get (v := .int (iI ((g 1) 9))) (C := RX3) (T := TX3) (N := 14) 4 12 (fun _ h => List.mem_cons_of_mem _ (List.mem_append_left _ (List.mem_append_right _ h))) (List.mem_of_getElem? (i := 1) rfl) rfl rfl (by decide) rfl rfl dX1_layOnCause_67 ?_
      refine g_iconst dX1_layOnCause_70 ?_
      refine g_icmp_ne (tgt := 88) (by unfold R32; omega) (by unfold R32; omega) dX1_layOnCause_71 rfl (fun c_6 => ?_) (fun c_6 => ?_)
      · refine g_aload_n 0 dX1_layOnCause_74 rfl rfl ?_
        refine g_get (C := RX1) (T := TX1) (N := 9) 0 3 (fun _ h => List.mem_cons_of_mem _ (List.mem_append_right _ h)) (List.mem_of_getElem? (i := 4) rfl) rfl rfl (by decide) rfl rfl dX1_layOnCause_75 ?_
        refine g_bipush dX1_layOnCause_78 rfl ?_
        refine g_dup2 dX1_layOnCause_80 rfl rfl ?_
        refine g_iald 2 dX1_layOnCause_81 rfl (by decide) (by omega) (by omega) ?_
        refine g_iconst dX1_layOnCause_82 ?_
        refine g_iadd dX1_layOnCause_83 ?_
        refine g_iast (ws1 := [(v, oo 1 [.ref ma, .int (iI M), .ref fo, .ref la, .int (iI ti), .int (iI so), .int (iI ta), .int (iI go), .int (iI (sl + 1))]), (ma, aM E 6 mq), (la, aI E 8 (up ld 6 ((ld 6) + 1))), (ad 0, oo 3 (fMa 0 .null (sd 0) (g 0))), (ad 1, oo 3 (fMa 1 (.ref (ad 0)) (sd 1) (g 1))), (ad 2, oo 3 (fMa 2 (.ref (ad 1)) (sd 2) (g 2))), (ad 3, oo 3 (fMa 3 (.ref (ad 2)) (sd 3) (g 3))), (ad 4, oo 3 (fMa 4 (.ref (ad 3)) (sd 4) (g 4))), (ad 5, oo 3 (fMa 5 (.ref (ad 4)) (sd 5) (g 5)))]) 2 dX1_layOnCause_84 rfl rfl (by decide) (by omega) (by omega) ?_
        refine g_goto (tgt := 113) dX1_layOnCause_85 rfl ?_
        exact g_vret hRet dX1_layOnCause_113 ⟨(sl + 1), (up ld 6 ((ld 6) + 1)), (by unfold sLay; rw [if_neg hst]; refine ⟨rfl, ?_⟩; rw [hcau]; first | rfl | (show _ = up ld (if _ then _ else _) (ld (if _ then _ else _) + 1); first | (rw [if_neg (by assumption), if_pos (by assumption)]; done) | (rw [if_neg (by assumption), if_neg (by assumption)]; rfl))), rfl⟩
      · refine g_aload_n 1 dX1_layOnCause_88 rfl rfl ?_
        refine g_get (v := .int (iI 1)) (C := RX3) (T := TX3) (N := 14) 4 0 (fun _ h => List.mem_cons_of_mem _ (List.mem_append_left _ (List.mem_append_right _ h))) (List.mem_of_getElem? (i := 5) rfl) rfl rfl (by decide) rfl rfl dX1_layOnCause_89 ?_
        refine g_iconst dX1_layOnCause_92 ?_
        refine g_iconst dX1_layOnCause_93 ?_
        refine g_callN_i (n := 3) (As := [.int (iI 1), .int (iI 0), .int (iI 5)]) (wr := [(v, oo 1 [.ref ma, .int (iI M), .ref fo, .ref la, .int (iI ti), .int (iI so), .int (iI ta), .int (iI go), .int (iI (sl + 1))]), (ma, aM E 6 mq), (la, aI E 8 ld), (ad 0, oo 3 (fMa 0 .null (sd 0) (g 0))), (ad 1, oo 3 (fMa 1 (.ref (ad 0)) (sd 1) (g 1))), (ad 2, oo 3 (fMa 2 (.ref (ad 1)) (sd 2) (g 2))), (ad 3, oo 3 (fMa 3 (.ref (ad 2)) (sd 3) (g 3))), (ad 4, oo 3 (fMa 4 (.ref (ad 3)) (sd 4) (g 4))), (ad 5, oo 3 (fMa 5 (.ref (ad 4)) (sd 5) (g 5)))]) [] (c_X6_within E 1 0 5 (by omega) (by omega) (by omega)) [] [0, 1, 2, 3, 4, 5, 6, 7, 8] gX1_layOnCause_X6_within_n130 (fun _ h => h.2.2.2.2.1) (List.mem_of_getElem? (i := 18) rfl) (List.mem_of_getElem? (i := 17) rfl) rfl (by decide +kernel) ⟨by decide, by decide⟩ rfl rfl rfl rfl rfl (by decide) rfl (by decide) (by decide) (fun _ h => absurd h List.not_mem_nil) dX1_layOnCause_94 rfl (Nat.le_of_ble_eq_true rfl) ⟨by decide, by decide⟩ (fun r u p_7 => ?_)
        obtain ⟨rfl, rfl⟩ := p_7
        refine g_perm (ws1 := [(v, oo 1 [.ref ma, .int (iI M), .ref fo, .ref la, .int (iI ti), .int (iI so), .int (iI ta), .int (iI go), .int (iI (sl + 1))]), (ma, aM E 6 mq), (la, aI E 8 ld), (ad 0, oo 3 (fMa 0 .null (sd 0) (g 0))), (ad 1, oo 3 (fMa 1 (.ref (ad 0)) (sd 1) (g 1))), (ad 2, oo 3 (fMa 2 (.ref (ad 1)) (sd 2) (g 2))), (ad 3, oo 3 (fMa 3 (.ref (ad 2)) (sd 3) (g 3))), (ad 4, oo 3 (fMa 4 (.ref (ad 3)) (sd 4) (g 4))), (ad 5, oo 3 (fMa 5 (.ref (ad 4)) (sd 5) (g 5)))]) [0, 1, 2, 3, 4, 5, 6, 7, 8] rfl (by decide) rfl ?_
        refine g_if_eq_b (tgt := 113) dX1_layOnCause_97 rfl (fun _ => ?_) (fun q => absurd (by decide) q)
        refine g_aload_n 0 dX1_layOnCause_100 rfl rfl ?_
        refine g_get (C := RX1) (T := TX1) (N := 9) 0 3 (fun _ h => List.mem_cons_of_mem _ (List.mem_append_right _ h)) (List.mem_of_getElem? (i := 4) rfl) rfl rfl (by decide) rfl rfl dX1_layOnCause_101 ?_
        refine g_aload_n 1 dX1_layOnCause_104 rfl rfl ?_
        refine g_get (v := .int (iI 1)) (C := RX3) (T := TX3) (N := 14) 4 0 (fun _ h => List.mem_cons_of_mem _ (List.mem_append_left _ (List.mem_append_right _ h))) (List.mem_of_getElem? (i := 5) rfl) rfl rfl (by decide) rfl rfl dX1_layOnCause_105 ?_
        refine g_dup2 dX1_layOnCause_108 rfl rfl ?_
        refine g_iald 2 dX1_layOnCause_109 rfl (by decide) (by omega) (by omega) ?_
        refine g_iconst dX1_layOnCause_110 ?_
        refine g_iadd dX1_layOnCause_111 ?_
        refine g_iast (ws1 := [(v, oo 1 [.ref ma, .int (iI M), .ref fo, .ref la, .int (iI ti), .int (iI so), .int (iI ta), .int (iI go), .int (iI (sl + 1))]), (ma, aM E 6 mq), (la, aI E 8 (up ld 1 ((ld 1) + 1))), (ad 0, oo 3 (fMa 0 .null (sd 0) (g 0))), (ad 1, oo 3 (fMa 1 (.ref (ad 0)) (sd 1) (g 1))), (ad 2, oo 3 (fMa 2 (.ref (ad 1)) (sd 2) (g 2))), (ad 3, oo 3 (fMa 3 (.ref (ad 2)) (sd 3) (g 3))), (ad 4, oo 3 (fMa 4 (.ref (ad 3)) (sd 4) (g 4))), (ad 5, oo 3 (fMa 5 (.ref (ad 4)) (sd 5) (g 5)))]) 2 dX1_layOnCause_112 rfl rfl (by decide) (by omega) (by omega) ?_
        exact g_vret hRet dX1_layOnCause_113 ⟨(sl + 1), (up ld 1 ((ld 1) + 1)), (by unfold sLay; rw [if_neg hst]; refine ⟨rfl, ?_⟩; rw [hcau]; first | rfl | (show _ = up ld (if _ then _ else _) (ld (if _ then _ else _) + 1); first | (rw [if_neg (by assumption), if_pos (by assumption)]; done) | (rw [if_neg (by assumption), if_neg (by assumption)]; rfl))), rfl⟩
  have K28_2 : ∀  (hcau : cau g M.toNat = cau g 3) (hst : ¬ g (M - 1) 9 = 3), G X ({ frames := 2, cells := 0, slots := 0, locals := 41 } : Room) cX1_layOnCause 2 RX1 wsX1_layOnCause E [] 0 0 [(v, oo 1 [.ref ma, .int (iI M), .ref fo, .ref la, .int (iI ti), .int (iI so), .int (iI ta), .int (iI go), .int (iI (sl + 1))]), (ma, aM E 6 mq), (la, aI E 8 ld), (ad 0, oo 3 (fMa 0 .null (sd 0) (g 0))), (ad 1, oo 3 (fMa 1 (.ref (ad 0)) (sd 1) (g 1))), (ad 2, oo 3 (fMa 2 (.ref (ad 1)) (sd 2) (g 2))), (ad 3, oo 3 (fMa 3 (.ref (ad 2)) (sd 3) (g 3))), (ad 4, oo 3 (fMa 4 (.ref (ad 3)) (sd 4) (g 4))), (ad 5, oo 3 (fMa 5 (.ref (ad 4)) (sd 5) (g 5)))] [(0, .ref v), (1, .ref (ad 2))] 28 [] := by
    intro  hcau hst
    refine g_aload_n 1 dX1_layOnCause_28 rfl rfl ?_
    refine g_ifnull dX1_layOnCause_29 ?_
    refine g_aload_n 1 dX1_layOnCause_32 rfl rfl ?_
    refine g_get (v := .int (iI ((g 2) 9))) (C := RX3) (T := TX3) (N := 14) 5 12 (fun _ h => List.mem_cons_of_mem _ (List.mem_append_left _ (List.mem_append_right _ h))) (List.mem_of_getElem? (i := 1) rfl) rfl rfl (by decide) rfl rfl dX1_layOnCause_33 ?_
    refine g_iconst dX1_layOnCause_36 ?_
    refine g_icmp_ne (tgt := 48) (by unfold R32; omega) (by unfold R32; omega) dX1_layOnCause_37 rfl (fun c_9 => ?_) (fun c_9 => ?_)
    · refine g_aload_n 1 dX1_layOnCause_40 rfl rfl ?_
      refine g_get (v := .ref (ad 1)) (C := RX3) (T := TX3) (N := 14) 5 1 (fun _ h => List.mem_cons_of_mem _ (List.mem_append_left _ (List.mem_append_right _ h))) (List.mem_of_getElem? (i := 3) rfl) rfl rfl (by decide) rfl rfl dX1_layOnCause_41 ?_
      refine g_astore_n (lv1 := [(1, .ref (ad 1)), (0, .ref v)]) dX1_layOnCause_44 rfl (by decide) rfl ?_
      refine g_goto (tgt := 28) dX1_layOnCause_45 rfl ?_
      refine g_lv (lv1 := [(0, .ref v), (1, .ref (ad 1))]) [1, 0] rfl ?_
      exact K28_1  (by rw [hcau]; show (if _ then _ else _) = _; rw [if_pos (by assumption)]) (by exact hst)
    · refine g_aload_n 1 dX1_layOnCause_48 rfl rfl ?_
      refine g_ifnonnull (tgt := 66) dX1_layOnCause_49 rfl ?_
      refine g_aload_n 1 dX1_layOnCause_66 rfl rfl ?_
      refine g_get (v := .int (iI ((g 2) 9))) (C := RX3) (T := TX3) (N := 14) 5 12 (fun _ h => List.mem_cons_of_mem _ (List.mem_append_left _ (List.mem_append_right _ h))) (List.mem_of_getElem? (i := 1) rfl) rfl rfl (by decide) rfl rfl dX1_layOnCause_67 ?_
      refine g_iconst dX1_layOnCause_70 ?_
      refine g_icmp_ne (tgt := 88) (by unfold R32; omega) (by unfold R32; omega) dX1_layOnCause_71 rfl (fun c_10 => ?_) (fun c_10 => ?_)
      · refine g_aload_n 0 dX1_layOnCause_74 rfl rfl ?_
        refine g_get (C := RX1) (T := TX1) (N := 9) 0 3 (fun _ h => List.mem_cons_of_mem _ (List.mem_append_right _ h)) (List.mem_of_getElem? (i := 4) rfl) rfl rfl (by decide) rfl rfl dX1_layOnCause_75 ?_
        refine g_bipush dX1_layOnCause_78 rfl ?_
        refine g_dup2 dX1_layOnCause_80 rfl rfl ?_
        refine g_iald 2 dX1_layOnCause_81 rfl (by decide) (by omega) (by omega) ?_
        refine g_iconst dX1_layOnCause_82 ?_
        refine g_iadd dX1_layOnCause_83 ?_
        refine g_iast (ws1 := [(v, oo 1 [.ref ma, .int (iI M), .ref fo, .ref la, .int (iI ti), .int (iI so), .int (iI ta), .int (iI go), .int (iI (sl + 1))]), (ma, aM E 6 mq), (la, aI E 8 (up ld 6 ((ld 6) + 1))), (ad 0, oo 3 (fMa 0 .null (sd 0) (g 0))), (ad 1, oo 3 (fMa 1 (.ref (ad 0)) (sd 1) (g 1))), (ad 2, oo 3 (fMa 2 (.ref (ad 1)) (sd 2) (g 2))), (ad 3, oo 3 (fMa 3 (.ref (ad 2)) (sd 3) (g 3))), (ad 4, oo 3 (fMa 4 (.ref (ad 3)) (sd 4) (g 4))), (ad 5, oo 3 (fMa 5 (.ref (ad 4)) (sd 5) (g 5)))]) 2 dX1_layOnCause_84 rfl rfl (by decide) (by omega) (by omega) ?_
        refine g_goto (tgt := 113) dX1_layOnCause_85 rfl ?_
        exact g_vret hRet dX1_layOnCause_113 ⟨(sl + 1), (up ld 6 ((ld 6) + 1)), (by unfold sLay; rw [if_neg hst]; refine ⟨rfl, ?_⟩; rw [hcau]; first | rfl | (show _ = up ld (if _ then _ else _) (ld (if _ then _ else _) + 1); first | (rw [if_neg (by assumption), if_pos (by assumption)]; done) | (rw [if_neg (by assumption), if_neg (by assumption)]; rfl))), rfl⟩
      · refine g_aload_n 1 dX1_layOnCause_88 rfl rfl ?_
        refine g_get (v := .int (iI 2)) (C := RX3) (T := TX3) (N := 14) 5 0 (fun _ h => List.mem_cons_of_mem _ (List.mem_append_left _ (List.mem_append_right _ h))) (List.mem_of_getElem? (i := 5) rfl) rfl rfl (by decide) rfl rfl dX1_layOnCause_89 ?_
        refine g_iconst dX1_layOnCause_92 ?_
        refine g_iconst dX1_layOnCause_93 ?_
        refine g_callN_i (n := 3) (As := [.int (iI 2), .int (iI 0), .int (iI 5)]) (wr := [(v, oo 1 [.ref ma, .int (iI M), .ref fo, .ref la, .int (iI ti), .int (iI so), .int (iI ta), .int (iI go), .int (iI (sl + 1))]), (ma, aM E 6 mq), (la, aI E 8 ld), (ad 0, oo 3 (fMa 0 .null (sd 0) (g 0))), (ad 1, oo 3 (fMa 1 (.ref (ad 0)) (sd 1) (g 1))), (ad 2, oo 3 (fMa 2 (.ref (ad 1)) (sd 2) (g 2))), (ad 3, oo 3 (fMa 3 (.ref (ad 2)) (sd 3) (g 3))), (ad 4, oo 3 (fMa 4 (.ref (ad 3)) (sd 4) (g 4))), (ad 5, oo 3 (fMa 5 (.ref (ad 4)) (sd 5) (g 5)))]) [] (c_X6_within E 2 0 5 (by omega) (by omega) (by omega)) [] [0, 1, 2, 3, 4, 5, 6, 7, 8] gX1_layOnCause_X6_within_n130 (fun _ h => h.2.2.2.2.1) (List.mem_of_getElem? (i := 18) rfl) (List.mem_of_getElem? (i := 17) rfl) rfl (by decide +kernel) ⟨by decide, by decide⟩ rfl rfl rfl rfl rfl (by decide) rfl (by decide) (by decide) (fun _ h => absurd h List.not_mem_nil) dX1_layOnCause_94 rfl (Nat.le_of_ble_eq_true rfl) ⟨by decide, by decide⟩ (fun r u p_11 => ?_)
        obtain ⟨rfl, rfl⟩ := p_11
        refine g_perm (ws1 := [(v, oo 1 [.ref ma, .int (iI M), .ref fo, .ref la, .int (iI ti), .int (iI so), .int (iI ta), .int (iI go), .int (iI (sl + 1))]), (ma, aM E 6 mq), (la, aI E 8 ld), (ad 0, oo 3 (fMa 0 .null (sd 0) (g 0))), (ad 1, oo 3 (fMa 1 (.ref (ad 0)) (sd 1) (g 1))), (ad 2, oo 3 (fMa 2 (.ref (ad 1)) (sd 2) (g 2))), (ad 3, oo 3 (fMa 3 (.ref (ad 2)) (sd 3) (g 3))), (ad 4, oo 3 (fMa 4 (.ref (ad 3)) (sd 4) (g 4))), (ad 5, oo 3 (fMa 5 (.ref (ad 4)) (sd 5) (g 5)))]) [0, 1, 2, 3, 4, 5, 6, 7, 8] rfl (by decide) rfl ?_
        refine g_if_eq_b (tgt := 113) dX1_layOnCause_97 rfl (fun _ => ?_) (fun q => absurd (by decide) q)
        refine g_aload_n 0 dX1_layOnCause_100 rfl rfl ?_
        refine g_get (C := RX1) (T := TX1) (N := 9) 0 3 (fun _ h => List.mem_cons_of_mem _ (List.mem_append_right _ h)) (List.mem_of_getElem? (i := 4) rfl) rfl rfl (by decide) rfl rfl dX1_layOnCause_101 ?_
        refine g_aload_n 1 dX1_layOnCause_104 rfl rfl ?_
        refine g_get (v := .int (iI 2)) (C := RX3) (T := TX3) (N := 14) 5 0 (fun _ h => List.mem_cons_of_mem _ (List.mem_append_left _ (List.mem_append_right _ h))) (List.mem_of_getElem? (i := 5) rfl) rfl rfl (by decide) rfl rfl dX1_layOnCause_105 ?_
        refine g_dup2 dX1_layOnCause_108 rfl rfl ?_
        refine g_iald 2 dX1_layOnCause_109 rfl (by decide) (by omega) (by omega) ?_
        refine g_iconst dX1_layOnCause_110 ?_
        refine g_iadd dX1_layOnCause_111 ?_
        refine g_iast (ws1 := [(v, oo 1 [.ref ma, .int (iI M), .ref fo, .ref la, .int (iI ti), .int (iI so), .int (iI ta), .int (iI go), .int (iI (sl + 1))]), (ma, aM E 6 mq), (la, aI E 8 (up ld 2 ((ld 2) + 1))), (ad 0, oo 3 (fMa 0 .null (sd 0) (g 0))), (ad 1, oo 3 (fMa 1 (.ref (ad 0)) (sd 1) (g 1))), (ad 2, oo 3 (fMa 2 (.ref (ad 1)) (sd 2) (g 2))), (ad 3, oo 3 (fMa 3 (.ref (ad 2)) (sd 3) (g 3))), (ad 4, oo 3 (fMa 4 (.ref (ad 3)) (sd 4) (g 4))), (ad 5, oo 3 (fMa 5 (.ref (ad 4)) (sd 5) (g 5)))]) 2 dX1_layOnCause_112 rfl rfl (by decide) (by omega) (by omega) ?_
        exact g_vret hRet dX1_layOnCause_113 ⟨(sl + 1), (up ld 2 ((ld 2) + 1)), (by unfold sLay; rw [if_neg hst]; refine ⟨rfl, ?_⟩; rw [hcau]; first | rfl | (show _ = up ld (if _ then _ else _) (ld (if _ then _ else _) + 1); first | (rw [if_neg (by assumption), if_pos (by assumption)]; done) | (rw [if_neg (by assumption), if_neg (by assumption)]; rfl))), rfl⟩
  have K28_3 : ∀  (hcau : cau g M.toNat = cau g 4) (hst : ¬ g (M - 1) 9 = 3), G X ({ frames := 2, cells := 0, slots := 0, locals := 41 } : Room) cX1_layOnCause 2 RX1 wsX1_layOnCause E [] 0 0 [(v, oo 1 [.ref ma, .int (iI M), .ref fo, .ref la, .int (iI ti), .int (iI so), .int (iI ta), .int (iI go), .int (iI (sl + 1))]), (ma, aM E 6 mq), (la, aI E 8 ld), (ad 0, oo 3 (fMa 0 .null (sd 0) (g 0))), (ad 1, oo 3 (fMa 1 (.ref (ad 0)) (sd 1) (g 1))), (ad 2, oo 3 (fMa 2 (.ref (ad 1)) (sd 2) (g 2))), (ad 3, oo 3 (fMa 3 (.ref (ad 2)) (sd 3) (g 3))), (ad 4, oo 3 (fMa 4 (.ref (ad 3)) (sd 4) (g 4))), (ad 5, oo 3 (fMa 5 (.ref (ad 4)) (sd 5) (g 5)))] [(0, .ref v), (1, .ref (ad 3))] 28 [] := by
    intro  hcau hst
    refine g_aload_n 1 dX1_layOnCause_28 rfl rfl ?_
    refine g_ifnull dX1_layOnCause_29 ?_
    refine g_aload_n 1 dX1_layOnCause_32 rfl rfl ?_
    refine g_get (v := .int (iI ((g 3) 9))) (C := RX3) (T := TX3) (N := 14) 6 12 (fun _ h => List.mem_cons_of_mem _ (List.mem_append_left _ (List.mem_append_right _ h))) (List.mem_of_getElem? (i := 1) rfl) rfl rfl (by decide) rfl rfl dX1_layOnCause_33 ?_
    refine g_iconst dX1_layOnCause_36 ?_
    refine g_icmp_ne (tgt := 48) (by unfold R32; omega) (by unfold R32; omega) dX1_layOnCause_37 rfl (fun c_13 => ?_) (fun c_13 => ?_)
    · refine g_aload_n 1 dX1_layOnCause_40 rfl rfl ?_
      refine g_get (v := .ref (ad 2)) (C := RX3) (T := TX3) (N := 14) 6 1 (fun _ h => List.mem_cons_of_mem _ (List.mem_append_left _ (List.mem_append_right _ h))) (List.mem_of_getElem? (i := 3) rfl) rfl rfl (by decide) rfl rfl dX1_layOnCause_41 ?_
      refine g_astore_n (lv1 := [(1, .ref (ad 2)), (0, .ref v)]) dX1_layOnCause_44 rfl (by decide) rfl ?_
      refine g_goto (tgt := 28) dX1_layOnCause_45 rfl ?_
      refine g_lv (lv1 := [(0, .ref v), (1, .ref (ad 2))]) [1, 0] rfl ?_
      exact K28_2  (by rw [hcau]; show (if _ then _ else _) = _; rw [if_pos (by assumption)]) (by exact hst)
    · refine g_aload_n 1 dX1_layOnCause_48 rfl rfl ?_
      refine g_ifnonnull (tgt := 66) dX1_layOnCause_49 rfl ?_
      refine g_aload_n 1 dX1_layOnCause_66 rfl rfl ?_
      refine g_get (v := .int (iI ((g 3) 9))) (C := RX3) (T := TX3) (N := 14) 6 12 (fun _ h => List.mem_cons_of_mem _ (List.mem_append_left _ (List.mem_append_right _ h))) (List.mem_of_getElem? (i := 1) rfl) rfl rfl (by decide) rfl rfl dX1_layOnCause_67 ?_
      refine g_iconst dX1_layOnCause_70 ?_
      refine g_icmp_ne (tgt := 88) (by unfold R32; omega) (by unfold R32; omega) dX1_layOnCause_71 rfl (fun c_14 => ?_) (fun c_14 => ?_)
      · refine g_aload_n 0 dX1_layOnCause_74 rfl rfl ?_
        refine g_get (C := RX1) (T := TX1) (N := 9) 0 3 (fun _ h => List.mem_cons_of_mem _ (List.mem_append_right _ h)) (List.mem_of_getElem? (i := 4) rfl) rfl rfl (by decide) rfl rfl dX1_layOnCause_75 ?_
        refine g_bipush dX1_layOnCause_78 rfl ?_
        refine g_dup2 dX1_layOnCause_80 rfl rfl ?_
        refine g_iald 2 dX1_layOnCause_81 rfl (by decide) (by omega) (by omega) ?_
        refine g_iconst dX1_layOnCause_82 ?_
        refine g_iadd dX1_layOnCause_83 ?_
        refine g_iast (ws1 := [(v, oo 1 [.ref ma, .int (iI M), .ref fo, .ref la, .int (iI ti), .int (iI so), .int (iI ta), .int (iI go), .int (iI (sl + 1))]), (ma, aM E 6 mq), (la, aI E 8 (up ld 6 ((ld 6) + 1))), (ad 0, oo 3 (fMa 0 .null (sd 0) (g 0))), (ad 1, oo 3 (fMa 1 (.ref (ad 0)) (sd 1) (g 1))), (ad 2, oo 3 (fMa 2 (.ref (ad 1)) (sd 2) (g 2))), (ad 3, oo 3 (fMa 3 (.ref (ad 2)) (sd 3) (g 3))), (ad 4, oo 3 (fMa 4 (.ref (ad 3)) (sd 4) (g 4))), (ad 5, oo 3 (fMa 5 (.ref (ad 4)) (sd 5) (g 5)))]) 2 dX1_layOnCause_84 rfl rfl (by decide) (by omega) (by omega) ?_
        refine g_goto (tgt := 113) dX1_layOnCause_85 rfl ?_
        exact g_vret hRet dX1_layOnCause_113 ⟨(sl + 1), (up ld 6 ((ld 6) + 1)), (by unfold sLay; rw [if_neg hst]; refine ⟨rfl, ?_⟩; rw [hcau]; first | rfl | (show _ = up ld (if _ then _ else _) (ld (if _ then _ else _) + 1); first | (rw [if_neg (by assumption), if_pos (by assumption)]; done) | (rw [if_neg (by assumption), if_neg (by assumption)]; rfl))), rfl⟩
      · refine g_aload_n 1 dX1_layOnCause_88 rfl rfl ?_
        refine g_get (v := .int (iI 3)) (C := RX3) (T := TX3) (N := 14) 6 0 (fun _ h => List.mem_cons_of_mem _ (List.mem_append_left _ (List.mem_append_right _ h))) (List.mem_of_getElem? (i := 5) rfl) rfl rfl (by decide) rfl rfl dX1_layOnCause_89 ?_
        refine g_iconst dX1_layOnCause_92 ?_
        refine g_iconst dX1_layOnCause_93 ?_
        refine g_callN_i (n := 3) (As := [.int (iI 3), .int (iI 0), .int (iI 5)]) (wr := [(v, oo 1 [.ref ma, .int (iI M), .ref fo, .ref la, .int (iI ti), .int (iI so), .int (iI ta), .int (iI go), .int (iI (sl + 1))]), (ma, aM E 6 mq), (la, aI E 8 ld), (ad 0, oo 3 (fMa 0 .null (sd 0) (g 0))), (ad 1, oo 3 (fMa 1 (.ref (ad 0)) (sd 1) (g 1))), (ad 2, oo 3 (fMa 2 (.ref (ad 1)) (sd 2) (g 2))), (ad 3, oo 3 (fMa 3 (.ref (ad 2)) (sd 3) (g 3))), (ad 4, oo 3 (fMa 4 (.ref (ad 3)) (sd 4) (g 4))), (ad 5, oo 3 (fMa 5 (.ref (ad 4)) (sd 5) (g 5)))]) [] (c_X6_within E 3 0 5 (by omega) (by omega) (by omega)) [] [0, 1, 2, 3, 4, 5, 6, 7, 8] gX1_layOnCause_X6_within_n130 (fun _ h => h.2.2.2.2.1) (List.mem_of_getElem? (i := 18) rfl) (List.mem_of_getElem? (i := 17) rfl) rfl (by decide +kernel) ⟨by decide, by decide⟩ rfl rfl rfl rfl rfl (by decide) rfl (by decide) (by decide) (fun _ h => absurd h List.not_mem_nil) dX1_layOnCause_94 rfl (Nat.le_of_ble_eq_true rfl) ⟨by decide, by decide⟩ (fun r u p_15 => ?_)
        obtain ⟨rfl, rfl⟩ := p_15
        refine g_perm (ws1 := [(v, oo 1 [.ref ma, .int (iI M), .ref fo, .ref la, .int (iI ti), .int (iI so), .int (iI ta), .int (iI go), .int (iI (sl + 1))]), (ma, aM E 6 mq), (la, aI E 8 ld), (ad 0, oo 3 (fMa 0 .null (sd 0) (g 0))), (ad 1, oo 3 (fMa 1 (.ref (ad 0)) (sd 1) (g 1))), (ad 2, oo 3 (fMa 2 (.ref (ad 1)) (sd 2) (g 2))), (ad 3, oo 3 (fMa 3 (.ref (ad 2)) (sd 3) (g 3))), (ad 4, oo 3 (fMa 4 (.ref (ad 3)) (sd 4) (g 4))), (ad 5, oo 3 (fMa 5 (.ref (ad 4)) (sd 5) (g 5)))]) [0, 1, 2, 3, 4, 5, 6, 7, 8] rfl (by decide) rfl ?_
        refine g_if_eq_b (tgt := 113) dX1_layOnCause_97 rfl (fun _ => ?_) (fun q => absurd (by decide) q)
        refine g_aload_n 0 dX1_layOnCause_100 rfl rfl ?_
        refine g_get (C := RX1) (T := TX1) (N := 9) 0 3 (fun _ h => List.mem_cons_of_mem _ (List.mem_append_right _ h)) (List.mem_of_getElem? (i := 4) rfl) rfl rfl (by decide) rfl rfl dX1_layOnCause_101 ?_
        refine g_aload_n 1 dX1_layOnCause_104 rfl rfl ?_
        refine g_get (v := .int (iI 3)) (C := RX3) (T := TX3) (N := 14) 6 0 (fun _ h => List.mem_cons_of_mem _ (List.mem_append_left _ (List.mem_append_right _ h))) (List.mem_of_getElem? (i := 5) rfl) rfl rfl (by decide) rfl rfl dX1_layOnCause_105 ?_
        refine g_dup2 dX1_layOnCause_108 rfl rfl ?_
        refine g_iald 2 dX1_layOnCause_109 rfl (by decide) (by omega) (by omega) ?_
        refine g_iconst dX1_layOnCause_110 ?_
        refine g_iadd dX1_layOnCause_111 ?_
        refine g_iast (ws1 := [(v, oo 1 [.ref ma, .int (iI M), .ref fo, .ref la, .int (iI ti), .int (iI so), .int (iI ta), .int (iI go), .int (iI (sl + 1))]), (ma, aM E 6 mq), (la, aI E 8 (up ld 3 ((ld 3) + 1))), (ad 0, oo 3 (fMa 0 .null (sd 0) (g 0))), (ad 1, oo 3 (fMa 1 (.ref (ad 0)) (sd 1) (g 1))), (ad 2, oo 3 (fMa 2 (.ref (ad 1)) (sd 2) (g 2))), (ad 3, oo 3 (fMa 3 (.ref (ad 2)) (sd 3) (g 3))), (ad 4, oo 3 (fMa 4 (.ref (ad 3)) (sd 4) (g 4))), (ad 5, oo 3 (fMa 5 (.ref (ad 4)) (sd 5) (g 5)))]) 2 dX1_layOnCause_112 rfl rfl (by decide) (by omega) (by omega) ?_
        exact g_vret hRet dX1_layOnCause_113 ⟨(sl + 1), (up ld 3 ((ld 3) + 1)), (by unfold sLay; rw [if_neg hst]; refine ⟨rfl, ?_⟩; rw [hcau]; first | rfl | (show _ = up ld (if _ then _ else _) (ld (if _ then _ else _) + 1); first | (rw [if_neg (by assumption), if_pos (by assumption)]; done) | (rw [if_neg (by assumption), if_neg (by assumption)]; rfl))), rfl⟩
  have K28_4 : ∀  (hcau : cau g M.toNat = cau g 5) (hst : ¬ g (M - 1) 9 = 3), G X ({ frames := 2, cells := 0, slots := 0, locals := 41 } : Room) cX1_layOnCause 2 RX1 wsX1_layOnCause E [] 0 0 [(v, oo 1 [.ref ma, .int (iI M), .ref fo, .ref la, .int (iI ti), .int (iI so), .int (iI ta), .int (iI go), .int (iI (sl + 1))]), (ma, aM E 6 mq), (la, aI E 8 ld), (ad 0, oo 3 (fMa 0 .null (sd 0) (g 0))), (ad 1, oo 3 (fMa 1 (.ref (ad 0)) (sd 1) (g 1))), (ad 2, oo 3 (fMa 2 (.ref (ad 1)) (sd 2) (g 2))), (ad 3, oo 3 (fMa 3 (.ref (ad 2)) (sd 3) (g 3))), (ad 4, oo 3 (fMa 4 (.ref (ad 3)) (sd 4) (g 4))), (ad 5, oo 3 (fMa 5 (.ref (ad 4)) (sd 5) (g 5)))] [(0, .ref v), (1, .ref (ad 4))] 28 [] := by
    intro  hcau hst
    refine g_aload_n 1 dX1_layOnCause_28 rfl rfl ?_
    refine g_ifnull dX1_layOnCause_29 ?_
    refine g_aload_n 1 dX1_layOnCause_32 rfl rfl ?_
    refine g_get (v := .int (iI ((g 4) 9))) (C := RX3) (T := TX3) (N := 14) 7 12 (fun _ h => List.mem_cons_of_mem _ (List.mem_append_left _ (List.mem_append_right _ h))) (List.mem_of_getElem? (i := 1) rfl) rfl rfl (by decide) rfl rfl dX1_layOnCause_33 ?_
    refine g_iconst dX1_layOnCause_36 ?_
    refine g_icmp_ne (tgt := 48) (by unfold R32; omega) (by unfold R32; omega) dX1_layOnCause_37 rfl (fun c_17 => ?_) (fun c_17 => ?_)
    · refine g_aload_n 1 dX1_layOnCause_40 rfl rfl ?_
      refine g_get (v := .ref (ad 3)) (C := RX3) (T := TX3) (N := 14) 7 1 (fun _ h => List.mem_cons_of_mem _ (List.mem_append_left _ (List.mem_append_right _ h))) (List.mem_of_getElem? (i := 3) rfl) rfl rfl (by decide) rfl rfl dX1_layOnCause_41 ?_
      refine g_astore_n (lv1 := [(1, .ref (ad 3)), (0, .ref v)]) dX1_layOnCause_44 rfl (by decide) rfl ?_
      refine g_goto (tgt := 28) dX1_layOnCause_45 rfl ?_
      refine g_lv (lv1 := [(0, .ref v), (1, .ref (ad 3))]) [1, 0] rfl ?_
      exact K28_3  (by rw [hcau]; show (if _ then _ else _) = _; rw [if_pos (by assumption)]) (by exact hst)
    · refine g_aload_n 1 dX1_layOnCause_48 rfl rfl ?_
      refine g_ifnonnull (tgt := 66) dX1_layOnCause_49 rfl ?_
      refine g_aload_n 1 dX1_layOnCause_66 rfl rfl ?_
      refine g_get (v := .int (iI ((g 4) 9))) (C := RX3) (T := TX3) (N := 14) 7 12 (fun _ h => List.mem_cons_of_mem _ (List.mem_append_left _ (List.mem_append_right _ h))) (List.mem_of_getElem? (i := 1) rfl) rfl rfl (by decide) rfl rfl dX1_layOnCause_67 ?_
      refine g_iconst dX1_layOnCause_70 ?_
      refine g_icmp_ne (tgt := 88) (by unfold R32; omega) (by unfold R32; omega) dX1_layOnCause_71 rfl (fun c_18 => ?_) (fun c_18 => ?_)
      · refine g_aload_n 0 dX1_layOnCause_74 rfl rfl ?_
        refine g_get (C := RX1) (T := TX1) (N := 9) 0 3 (fun _ h => List.mem_cons_of_mem _ (List.mem_append_right _ h)) (List.mem_of_getElem? (i := 4) rfl) rfl rfl (by decide) rfl rfl dX1_layOnCause_75 ?_
        refine g_bipush dX1_layOnCause_78 rfl ?_
        refine g_dup2 dX1_layOnCause_80 rfl rfl ?_
        refine g_iald 2 dX1_layOnCause_81 rfl (by decide) (by omega) (by omega) ?_
        refine g_iconst dX1_layOnCause_82 ?_
        refine g_iadd dX1_layOnCause_83 ?_
        refine g_iast (ws1 := [(v, oo 1 [.ref ma, .int (iI M), .ref fo, .ref la, .int (iI ti), .int (iI so), .int (iI ta), .int (iI go), .int (iI (sl + 1))]), (ma, aM E 6 mq), (la, aI E 8 (up ld 6 ((ld 6) + 1))), (ad 0, oo 3 (fMa 0 .null (sd 0) (g 0))), (ad 1, oo 3 (fMa 1 (.ref (ad 0)) (sd 1) (g 1))), (ad 2, oo 3 (fMa 2 (.ref (ad 1)) (sd 2) (g 2))), (ad 3, oo 3 (fMa 3 (.ref (ad 2)) (sd 3) (g 3))), (ad 4, oo 3 (fMa 4 (.ref (ad 3)) (sd 4) (g 4))), (ad 5, oo 3 (fMa 5 (.ref (ad 4)) (sd 5) (g 5)))]) 2 dX1_layOnCause_84 rfl rfl (by decide) (by omega) (by omega) ?_
        refine g_goto (tgt := 113) dX1_layOnCause_85 rfl ?_
        exact g_vret hRet dX1_layOnCause_113 ⟨(sl + 1), (up ld 6 ((ld 6) + 1)), (by unfold sLay; rw [if_neg hst]; refine ⟨rfl, ?_⟩; rw [hcau]; first | rfl | (show _ = up ld (if _ then _ else _) (ld (if _ then _ else _) + 1); first | (rw [if_neg (by assumption), if_pos (by assumption)]; done) | (rw [if_neg (by assumption), if_neg (by assumption)]; rfl))), rfl⟩
      · refine g_aload_n 1 dX1_layOnCause_88 rfl rfl ?_
        refine g_get (v := .int (iI 4)) (C := RX3) (T := TX3) (N := 14) 7 0 (fun _ h => List.mem_cons_of_mem _ (List.mem_append_left _ (List.mem_append_right _ h))) (List.mem_of_getElem? (i := 5) rfl) rfl rfl (by decide) rfl rfl dX1_layOnCause_89 ?_
        refine g_iconst dX1_layOnCause_92 ?_
        refine g_iconst dX1_layOnCause_93 ?_
        refine g_callN_i (n := 3) (As := [.int (iI 4), .int (iI 0), .int (iI 5)]) (wr := [(v, oo 1 [.ref ma, .int (iI M), .ref fo, .ref la, .int (iI ti), .int (iI so), .int (iI ta), .int (iI go), .int (iI (sl + 1))]), (ma, aM E 6 mq), (la, aI E 8 ld), (ad 0, oo 3 (fMa 0 .null (sd 0) (g 0))), (ad 1, oo 3 (fMa 1 (.ref (ad 0)) (sd 1) (g 1))), (ad 2, oo 3 (fMa 2 (.ref (ad 1)) (sd 2) (g 2))), (ad 3, oo 3 (fMa 3 (.ref (ad 2)) (sd 3) (g 3))), (ad 4, oo 3 (fMa 4 (.ref (ad 3)) (sd 4) (g 4))), (ad 5, oo 3 (fMa 5 (.ref (ad 4)) (sd 5) (g 5)))]) [] (c_X6_within E 4 0 5 (by omega) (by omega) (by omega)) [] [0, 1, 2, 3, 4, 5, 6, 7, 8] gX1_layOnCause_X6_within_n130 (fun _ h => h.2.2.2.2.1) (List.mem_of_getElem? (i := 18) rfl) (List.mem_of_getElem? (i := 17) rfl) rfl (by decide +kernel) ⟨by decide, by decide⟩ rfl rfl rfl rfl rfl (by decide) rfl (by decide) (by decide) (fun _ h => absurd h List.not_mem_nil) dX1_layOnCause_94 rfl (Nat.le_of_ble_eq_true rfl) ⟨by decide, by decide⟩ (fun r u p_19 => ?_)
        obtain ⟨rfl, rfl⟩ := p_19
        refine g_perm (ws1 := [(v, oo 1 [.ref ma, .int (iI M), .ref fo, .ref la, .int (iI ti), .int (iI so), .int (iI ta), .int (iI go), .int (iI (sl + 1))]), (ma, aM E 6 mq), (la, aI E 8 ld), (ad 0, oo 3 (fMa 0 .null (sd 0) (g 0))), (ad 1, oo 3 (fMa 1 (.ref (ad 0)) (sd 1) (g 1))), (ad 2, oo 3 (fMa 2 (.ref (ad 1)) (sd 2) (g 2))), (ad 3, oo 3 (fMa 3 (.ref (ad 2)) (sd 3) (g 3))), (ad 4, oo 3 (fMa 4 (.ref (ad 3)) (sd 4) (g 4))), (ad 5, oo 3 (fMa 5 (.ref (ad 4)) (sd 5) (g 5)))]) [0, 1, 2, 3, 4, 5, 6, 7, 8] rfl (by decide) rfl ?_
        refine g_if_eq_b (tgt := 113) dX1_layOnCause_97 rfl (fun _ => ?_) (fun q => absurd (by decide) q)
        refine g_aload_n 0 dX1_layOnCause_100 rfl rfl ?_
        refine g_get (C := RX1) (T := TX1) (N := 9) 0 3 (fun _ h => List.mem_cons_of_mem _ (List.mem_append_right _ h)) (List.mem_of_getElem? (i := 4) rfl) rfl rfl (by decide) rfl rfl dX1_layOnCause_101 ?_
        refine g_aload_n 1 dX1_layOnCause_104 rfl rfl ?_
        refine g_get (v := .int (iI 4)) (C := RX3) (T := TX3) (N := 14) 7 0 (fun _ h => List.mem_cons_of_mem _ (List.mem_append_left _ (List.mem_append_right _ h))) (List.mem_of_getElem? (i := 5) rfl) rfl rfl (by decide) rfl rfl dX1_layOnCause_105 ?_
        refine g_dup2 dX1_layOnCause_108 rfl rfl ?_
        refine g_iald 2 dX1_layOnCause_109 rfl (by decide) (by omega) (by omega) ?_
        refine g_iconst dX1_layOnCause_110 ?_
        refine g_iadd dX1_layOnCause_111 ?_
        refine g_iast (ws1 := [(v, oo 1 [.ref ma, .int (iI M), .ref fo, .ref la, .int (iI ti), .int (iI so), .int (iI ta), .int (iI go), .int (iI (sl + 1))]), (ma, aM E 6 mq), (la, aI E 8 (up ld 4 ((ld 4) + 1))), (ad 0, oo 3 (fMa 0 .null (sd 0) (g 0))), (ad 1, oo 3 (fMa 1 (.ref (ad 0)) (sd 1) (g 1))), (ad 2, oo 3 (fMa 2 (.ref (ad 1)) (sd 2) (g 2))), (ad 3, oo 3 (fMa 3 (.ref (ad 2)) (sd 3) (g 3))), (ad 4, oo 3 (fMa 4 (.ref (ad 3)) (sd 4) (g 4))), (ad 5, oo 3 (fMa 5 (.ref (ad 4)) (sd 5) (g 5)))]) 2 dX1_layOnCause_112 rfl rfl (by decide) (by omega) (by omega) ?_
        exact g_vret hRet dX1_layOnCause_113 ⟨(sl + 1), (up ld 4 ((ld 4) + 1)), (by unfold sLay; rw [if_neg hst]; refine ⟨rfl, ?_⟩; rw [hcau]; first | rfl | (show _ = up ld (if _ then _ else _) (ld (if _ then _ else _) + 1); first | (rw [if_neg (by assumption), if_pos (by assumption)]; done) | (rw [if_neg (by assumption), if_neg (by assumption)]; rfl))), rfl⟩
  have K28_5 : ∀  (hcau : cau g M.toNat = cau g 6) (hst : ¬ g (M - 1) 9 = 3), G X ({ frames := 2, cells := 0, slots := 0, locals := 41 } : Room) cX1_layOnCause 2 RX1 wsX1_layOnCause E [] 0 0 [(v, oo 1 [.ref ma, .int (iI M), .ref fo, .ref la, .int (iI ti), .int (iI so), .int (iI ta), .int (iI go), .int (iI (sl + 1))]), (ma, aM E 6 mq), (la, aI E 8 ld), (ad 0, oo 3 (fMa 0 .null (sd 0) (g 0))), (ad 1, oo 3 (fMa 1 (.ref (ad 0)) (sd 1) (g 1))), (ad 2, oo 3 (fMa 2 (.ref (ad 1)) (sd 2) (g 2))), (ad 3, oo 3 (fMa 3 (.ref (ad 2)) (sd 3) (g 3))), (ad 4, oo 3 (fMa 4 (.ref (ad 3)) (sd 4) (g 4))), (ad 5, oo 3 (fMa 5 (.ref (ad 4)) (sd 5) (g 5)))] [(0, .ref v), (1, .ref (ad 5))] 28 [] := by
    intro  hcau hst
    refine g_aload_n 1 dX1_layOnCause_28 rfl rfl ?_
    refine g_ifnull dX1_layOnCause_29 ?_
    refine g_aload_n 1 dX1_layOnCause_32 rfl rfl ?_
    refine g_get (v := .int (iI ((g 5) 9))) (C := RX3) (T := TX3) (N := 14) 8 12 (fun _ h => List.mem_cons_of_mem _ (List.mem_append_left _ (List.mem_append_right _ h))) (List.mem_of_getElem? (i := 1) rfl) rfl rfl (by decide) rfl rfl dX1_layOnCause_33 ?_
    refine g_iconst dX1_layOnCause_36 ?_
    refine g_icmp_ne (tgt := 48) (by unfold R32; omega) (by unfold R32; omega) dX1_layOnCause_37 rfl (fun c_21 => ?_) (fun c_21 => ?_)
    · refine g_aload_n 1 dX1_layOnCause_40 rfl rfl ?_
      refine g_get (v := .ref (ad 4)) (C := RX3) (T := TX3) (N := 14) 8 1 (fun _ h => List.mem_cons_of_mem _ (List.mem_append_left _ (List.mem_append_right _ h))) (List.mem_of_getElem? (i := 3) rfl) rfl rfl (by decide) rfl rfl dX1_layOnCause_41 ?_
      refine g_astore_n (lv1 := [(1, .ref (ad 4)), (0, .ref v)]) dX1_layOnCause_44 rfl (by decide) rfl ?_
      refine g_goto (tgt := 28) dX1_layOnCause_45 rfl ?_
      refine g_lv (lv1 := [(0, .ref v), (1, .ref (ad 4))]) [1, 0] rfl ?_
      exact K28_4  (by rw [hcau]; show (if _ then _ else _) = _; rw [if_pos (by assumption)]) (by exact hst)
    · refine g_aload_n 1 dX1_layOnCause_48 rfl rfl ?_
      refine g_ifnonnull (tgt := 66) dX1_layOnCause_49 rfl ?_
      refine g_aload_n 1 dX1_layOnCause_66 rfl rfl ?_
      refine g_get (v := .int (iI ((g 5) 9))) (C := RX3) (T := TX3) (N := 14) 8 12 (fun _ h => List.mem_cons_of_mem _ (List.mem_append_left _ (List.mem_append_right _ h))) (List.mem_of_getElem? (i := 1) rfl) rfl rfl (by decide) rfl rfl dX1_layOnCause_67 ?_
      refine g_iconst dX1_layOnCause_70 ?_
      refine g_icmp_ne (tgt := 88) (by unfold R32; omega) (by unfold R32; omega) dX1_layOnCause_71 rfl (fun c_22 => ?_) (fun c_22 => ?_)
      · refine g_aload_n 0 dX1_layOnCause_74 rfl rfl ?_
        refine g_get (C := RX1) (T := TX1) (N := 9) 0 3 (fun _ h => List.mem_cons_of_mem _ (List.mem_append_right _ h)) (List.mem_of_getElem? (i := 4) rfl) rfl rfl (by decide) rfl rfl dX1_layOnCause_75 ?_
        refine g_bipush dX1_layOnCause_78 rfl ?_
        refine g_dup2 dX1_layOnCause_80 rfl rfl ?_
        refine g_iald 2 dX1_layOnCause_81 rfl (by decide) (by omega) (by omega) ?_
        refine g_iconst dX1_layOnCause_82 ?_
        refine g_iadd dX1_layOnCause_83 ?_
        refine g_iast (ws1 := [(v, oo 1 [.ref ma, .int (iI M), .ref fo, .ref la, .int (iI ti), .int (iI so), .int (iI ta), .int (iI go), .int (iI (sl + 1))]), (ma, aM E 6 mq), (la, aI E 8 (up ld 6 ((ld 6) + 1))), (ad 0, oo 3 (fMa 0 .null (sd 0) (g 0))), (ad 1, oo 3 (fMa 1 (.ref (ad 0)) (sd 1) (g 1))), (ad 2, oo 3 (fMa 2 (.ref (ad 1)) (sd 2) (g 2))), (ad 3, oo 3 (fMa 3 (.ref (ad 2)) (sd 3) (g 3))), (ad 4, oo 3 (fMa 4 (.ref (ad 3)) (sd 4) (g 4))), (ad 5, oo 3 (fMa 5 (.ref (ad 4)) (sd 5) (g 5)))]) 2 dX1_layOnCause_84 rfl rfl (by decide) (by omega) (by omega) ?_
        refine g_goto (tgt := 113) dX1_layOnCause_85 rfl ?_
        exact g_vret hRet dX1_layOnCause_113 ⟨(sl + 1), (up ld 6 ((ld 6) + 1)), (by unfold sLay; rw [if_neg hst]; refine ⟨rfl, ?_⟩; rw [hcau]; first | rfl | (show _ = up ld (if _ then _ else _) (ld (if _ then _ else _) + 1); first | (rw [if_neg (by assumption), if_pos (by assumption)]; done) | (rw [if_neg (by assumption), if_neg (by assumption)]; rfl))), rfl⟩
      · refine g_aload_n 1 dX1_layOnCause_88 rfl rfl ?_
        refine g_get (v := .int (iI 5)) (C := RX3) (T := TX3) (N := 14) 8 0 (fun _ h => List.mem_cons_of_mem _ (List.mem_append_left _ (List.mem_append_right _ h))) (List.mem_of_getElem? (i := 5) rfl) rfl rfl (by decide) rfl rfl dX1_layOnCause_89 ?_
        refine g_iconst dX1_layOnCause_92 ?_
        refine g_iconst dX1_layOnCause_93 ?_
        refine g_callN_i (n := 3) (As := [.int (iI 5), .int (iI 0), .int (iI 5)]) (wr := [(v, oo 1 [.ref ma, .int (iI M), .ref fo, .ref la, .int (iI ti), .int (iI so), .int (iI ta), .int (iI go), .int (iI (sl + 1))]), (ma, aM E 6 mq), (la, aI E 8 ld), (ad 0, oo 3 (fMa 0 .null (sd 0) (g 0))), (ad 1, oo 3 (fMa 1 (.ref (ad 0)) (sd 1) (g 1))), (ad 2, oo 3 (fMa 2 (.ref (ad 1)) (sd 2) (g 2))), (ad 3, oo 3 (fMa 3 (.ref (ad 2)) (sd 3) (g 3))), (ad 4, oo 3 (fMa 4 (.ref (ad 3)) (sd 4) (g 4))), (ad 5, oo 3 (fMa 5 (.ref (ad 4)) (sd 5) (g 5)))]) [] (c_X6_within E 5 0 5 (by omega) (by omega) (by omega)) [] [0, 1, 2, 3, 4, 5, 6, 7, 8] gX1_layOnCause_X6_within_n130 (fun _ h => h.2.2.2.2.1) (List.mem_of_getElem? (i := 18) rfl) (List.mem_of_getElem? (i := 17) rfl) rfl (by decide +kernel) ⟨by decide, by decide⟩ rfl rfl rfl rfl rfl (by decide) rfl (by decide) (by decide) (fun _ h => absurd h List.not_mem_nil) dX1_layOnCause_94 rfl (Nat.le_of_ble_eq_true rfl) ⟨by decide, by decide⟩ (fun r u p_23 => ?_)
        obtain ⟨rfl, rfl⟩ := p_23
        refine g_perm (ws1 := [(v, oo 1 [.ref ma, .int (iI M), .ref fo, .ref la, .int (iI ti), .int (iI so), .int (iI ta), .int (iI go), .int (iI (sl + 1))]), (ma, aM E 6 mq), (la, aI E 8 ld), (ad 0, oo 3 (fMa 0 .null (sd 0) (g 0))), (ad 1, oo 3 (fMa 1 (.ref (ad 0)) (sd 1) (g 1))), (ad 2, oo 3 (fMa 2 (.ref (ad 1)) (sd 2) (g 2))), (ad 3, oo 3 (fMa 3 (.ref (ad 2)) (sd 3) (g 3))), (ad 4, oo 3 (fMa 4 (.ref (ad 3)) (sd 4) (g 4))), (ad 5, oo 3 (fMa 5 (.ref (ad 4)) (sd 5) (g 5)))]) [0, 1, 2, 3, 4, 5, 6, 7, 8] rfl (by decide) rfl ?_
        refine g_if_eq_b (tgt := 113) dX1_layOnCause_97 rfl (fun _ => ?_) (fun q => absurd (by decide) q)
        refine g_aload_n 0 dX1_layOnCause_100 rfl rfl ?_
        refine g_get (C := RX1) (T := TX1) (N := 9) 0 3 (fun _ h => List.mem_cons_of_mem _ (List.mem_append_right _ h)) (List.mem_of_getElem? (i := 4) rfl) rfl rfl (by decide) rfl rfl dX1_layOnCause_101 ?_
        refine g_aload_n 1 dX1_layOnCause_104 rfl rfl ?_
        refine g_get (v := .int (iI 5)) (C := RX3) (T := TX3) (N := 14) 8 0 (fun _ h => List.mem_cons_of_mem _ (List.mem_append_left _ (List.mem_append_right _ h))) (List.mem_of_getElem? (i := 5) rfl) rfl rfl (by decide) rfl rfl dX1_layOnCause_105 ?_
        refine g_dup2 dX1_layOnCause_108 rfl rfl ?_
        refine g_iald 2 dX1_layOnCause_109 rfl (by decide) (by omega) (by omega) ?_
        refine g_iconst dX1_layOnCause_110 ?_
        refine g_iadd dX1_layOnCause_111 ?_
        refine g_iast (ws1 := [(v, oo 1 [.ref ma, .int (iI M), .ref fo, .ref la, .int (iI ti), .int (iI so), .int (iI ta), .int (iI go), .int (iI (sl + 1))]), (ma, aM E 6 mq), (la, aI E 8 (up ld 5 ((ld 5) + 1))), (ad 0, oo 3 (fMa 0 .null (sd 0) (g 0))), (ad 1, oo 3 (fMa 1 (.ref (ad 0)) (sd 1) (g 1))), (ad 2, oo 3 (fMa 2 (.ref (ad 1)) (sd 2) (g 2))), (ad 3, oo 3 (fMa 3 (.ref (ad 2)) (sd 3) (g 3))), (ad 4, oo 3 (fMa 4 (.ref (ad 3)) (sd 4) (g 4))), (ad 5, oo 3 (fMa 5 (.ref (ad 4)) (sd 5) (g 5)))]) 2 dX1_layOnCause_112 rfl rfl (by decide) (by omega) (by omega) ?_
        exact g_vret hRet dX1_layOnCause_113 ⟨(sl + 1), (up ld 5 ((ld 5) + 1)), (by unfold sLay; rw [if_neg hst]; refine ⟨rfl, ?_⟩; rw [hcau]; first | rfl | (show _ = up ld (if _ then _ else _) (ld (if _ then _ else _) + 1); first | (rw [if_neg (by assumption), if_pos (by assumption)]; done) | (rw [if_neg (by assumption), if_neg (by assumption)]; rfl))), rfl⟩
  refine g_aload_n 0 dX1_layOnCause_0 rfl rfl ?_
  refine g_callV_q (n := 0) (As := []) (wr := [(la, aI E 8 ld), (ad 0, oo 3 (fMa 0 .null (sd 0) (g 0))), (ad 1, oo 3 (fMa 1 (.ref (ad 0)) (sd 1) (g 1))), (ad 2, oo 3 (fMa 2 (.ref (ad 1)) (sd 2) (g 2))), (ad 3, oo 3 (fMa 3 (.ref (ad 2)) (sd 3) (g 3))), (ad 4, oo 3 (fMa 4 (.ref (ad 3)) (sd 4) (g 4))), (ad 5, oo 3 (fMa 5 (.ref (ad 4)) (sd 5) (g 5)))]) (C := RX1) [] (c_X1_last E v ma fo la M ti so ta go sl mq ad (by omega) (by omega) (by omega) (by omega) (by exact hmq)) [0, 1] [2, 3, 4, 5, 6, 7, 8] 0 rfl rfl gX1_layOnCause_X1_last rfl ⟨rfl, by decide +kernel⟩ ⟨by decide, by decide⟩ rfl rfl rfl rfl rfl (by decide) rfl (by decide) (by decide) (fun _ h => absurd h List.not_mem_nil) dX1_layOnCause_1 rfl (Nat.le_of_ble_eq_true rfl) ⟨by decide, by decide⟩ (fun r u p_25 => ?_)
  obtain ⟨rfl, rfl⟩ := p_25
  refine g_perm (ws1 := [(v, oo 1 [.ref ma, .int (iI M), .ref fo, .ref la, .int (iI ti), .int (iI so), .int (iI ta), .int (iI go), .int (iI sl)]), (ma, aM E 6 mq), (la, aI E 8 ld), (ad 0, oo 3 (fMa 0 .null (sd 0) (g 0))), (ad 1, oo 3 (fMa 1 (.ref (ad 0)) (sd 1) (g 1))), (ad 2, oo 3 (fMa 2 (.ref (ad 1)) (sd 2) (g 2))), (ad 3, oo 3 (fMa 3 (.ref (ad 2)) (sd 3) (g 3))), (ad 4, oo 3 (fMa 4 (.ref (ad 3)) (sd 4) (g 4))), (ad 5, oo 3 (fMa 5 (.ref (ad 4)) (sd 5) (g 5)))]) [7, 8, 0, 1, 2, 3, 4, 5, 6] rfl (by decide) rfl ?_
  rcases (show M = 2 ∨ M = 3 ∨ M = 4 ∨ M = 5 ∨ M = 6 by omega) with hMk | hMk | hMk | hMk | hMk
  · refine g_as (st1 := [.ref (ad 1)]) ?_ rfl rfl (by rw [hMk]; rfl)
    refine g_astore_n (lv1 := [(1, .ref (ad 1)), (0, .ref v)]) dX1_layOnCause_4 rfl (by decide) rfl ?_
    refine g_aload_n 0 dX1_layOnCause_5 rfl rfl ?_
    refine g_ifnull dX1_layOnCause_6 ?_
    refine g_aload_n 0 dX1_layOnCause_9 rfl rfl ?_
    refine g_get (v := .int (iI ((g 1) 9))) (C := RX3) (T := TX3) (N := 14) 4 12 (fun _ h => List.mem_cons_of_mem _ (List.mem_append_left _ (List.mem_append_right _ h))) (List.mem_of_getElem? (i := 1) rfl) rfl rfl (by decide) rfl rfl dX1_layOnCause_10 ?_
    refine g_iconst dX1_layOnCause_13 ?_
    refine g_icmp_ne (tgt := 18) (by unfold R32; omega) (by unfold R32; omega) dX1_layOnCause_14 rfl (fun hs3 => ?_) (fun hs3 => ?_)
    · exact g_vret hRet dX1_layOnCause_17 ⟨sl, ld, (by unfold sLay; rw [if_pos (by rw [hMk]; exact hs3)]; exact ⟨rfl, rfl⟩), rfl⟩
    · refine g_aload_n 1 dX1_layOnCause_18 rfl rfl ?_
      refine g_dup dX1_layOnCause_19 rfl ?_
      refine g_get (C := RX1) (T := TX1) (N := 9) 0 8 (fun _ h => List.mem_cons_of_mem _ (List.mem_append_right _ h)) (List.mem_of_getElem? (i := 2) rfl) rfl rfl (by decide) rfl rfl dX1_layOnCause_20 ?_
      refine g_iconst dX1_layOnCause_23 ?_
      refine g_iadd dX1_layOnCause_24 ?_
      refine g_put (C := RX1) (T := TX1) (N := 9) (ws1 := [(v, oo 1 [.ref ma, .int (iI M), .ref fo, .ref la, .int (iI ti), .int (iI so), .int (iI ta), .int (iI go), .int (iI (sl + 1))]), (ma, aM E 6 mq), (la, aI E 8 ld), (ad 0, oo 3 (fMa 0 .null (sd 0) (g 0))), (ad 1, oo 3 (fMa 1 (.ref (ad 0)) (sd 1) (g 1))), (ad 2, oo 3 (fMa 2 (.ref (ad 1)) (sd 2) (g 2))), (ad 3, oo 3 (fMa 3 (.ref (ad 2)) (sd 3) (g 3))), (ad 4, oo 3 (fMa 4 (.ref (ad 3)) (sd 4) (g 4))), (ad 5, oo 3 (fMa 5 (.ref (ad 4)) (sd 5) (g 5)))]) 0 8 (fun _ h => List.mem_cons_of_mem _ (List.mem_append_right _ h)) tyX1 tyX1_ok nmX1 (List.mem_of_getElem? (i := 2) rfl) rfl rfl (by decide) rfl (tyX1_ok 8 (by decide)) rfl rfl (by first | decide | exact Nat.le_of_ble_eq_true rfl) dX1_layOnCause_25 rfl rfl ?_
      refine g_lv (lv1 := [(0, .ref v), (1, .ref (ad 1))]) [1, 0] rfl ?_
      exact K28_1  (by rw [show M.toNat = 2 by omega]) (by rw [hMk]; exact hs3)
  · refine g_as (st1 := [.ref (ad 2)]) ?_ rfl rfl (by rw [hMk]; rfl)
    refine g_astore_n (lv1 := [(1, .ref (ad 2)), (0, .ref v)]) dX1_layOnCause_4 rfl (by decide) rfl ?_
    refine g_aload_n 0 dX1_layOnCause_5 rfl rfl ?_
    refine g_ifnull dX1_layOnCause_6 ?_
    refine g_aload_n 0 dX1_layOnCause_9 rfl rfl ?_
    refine g_get (v := .int (iI ((g 2) 9))) (C := RX3) (T := TX3) (N := 14) 5 12 (fun _ h => List.mem_cons_of_mem _ (List.mem_append_left _ (List.mem_append_right _ h))) (List.mem_of_getElem? (i := 1) rfl) rfl rfl (by decide) rfl rfl dX1_layOnCause_10 ?_
    refine g_iconst dX1_layOnCause_13 ?_
    refine g_icmp_ne (tgt := 18) (by unfold R32; omega) (by unfold R32; omega) dX1_layOnCause_14 rfl (fun hs3 => ?_) (fun hs3 => ?_)
    · exact g_vret hRet dX1_layOnCause_17 ⟨sl, ld, (by unfold sLay; rw [if_pos (by rw [hMk]; exact hs3)]; exact ⟨rfl, rfl⟩), rfl⟩
    · refine g_aload_n 1 dX1_layOnCause_18 rfl rfl ?_
      refine g_dup dX1_layOnCause_19 rfl ?_
      refine g_get (C := RX1) (T := TX1) (N := 9) 0 8 (fun _ h => List.mem_cons_of_mem _ (List.mem_append_right _ h)) (List.mem_of_getElem? (i := 2) rfl) rfl rfl (by decide) rfl rfl dX1_layOnCause_20 ?_
      refine g_iconst dX1_layOnCause_23 ?_
      refine g_iadd dX1_layOnCause_24 ?_
      refine g_put (C := RX1) (T := TX1) (N := 9) (ws1 := [(v, oo 1 [.ref ma, .int (iI M), .ref fo, .ref la, .int (iI ti), .int (iI so), .int (iI ta), .int (iI go), .int (iI (sl + 1))]), (ma, aM E 6 mq), (la, aI E 8 ld), (ad 0, oo 3 (fMa 0 .null (sd 0) (g 0))), (ad 1, oo 3 (fMa 1 (.ref (ad 0)) (sd 1) (g 1))), (ad 2, oo 3 (fMa 2 (.ref (ad 1)) (sd 2) (g 2))), (ad 3, oo 3 (fMa 3 (.ref (ad 2)) (sd 3) (g 3))), (ad 4, oo 3 (fMa 4 (.ref (ad 3)) (sd 4) (g 4))), (ad 5, oo 3 (fMa 5 (.ref (ad 4)) (sd 5) (g 5)))]) 0 8 (fun _ h => List.mem_cons_of_mem _ (List.mem_append_right _ h)) tyX1 tyX1_ok nmX1 (List.mem_of_getElem? (i := 2) rfl) rfl rfl (by decide) rfl (tyX1_ok 8 (by decide)) rfl rfl (by first | decide | exact Nat.le_of_ble_eq_true rfl) dX1_layOnCause_25 rfl rfl ?_
      refine g_lv (lv1 := [(0, .ref v), (1, .ref (ad 2))]) [1, 0] rfl ?_
      exact K28_2  (by rw [show M.toNat = 3 by omega]) (by rw [hMk]; exact hs3)
  · refine g_as (st1 := [.ref (ad 3)]) ?_ rfl rfl (by rw [hMk]; rfl)
    refine g_astore_n (lv1 := [(1, .ref (ad 3)), (0, .ref v)]) dX1_layOnCause_4 rfl (by decide) rfl ?_
    refine g_aload_n 0 dX1_layOnCause_5 rfl rfl ?_
    refine g_ifnull dX1_layOnCause_6 ?_
    refine g_aload_n 0 dX1_layOnCause_9 rfl rfl ?_
    refine g_get (v := .int (iI ((g 3) 9))) (C := RX3) (T := TX3) (N := 14) 6 12 (fun _ h => List.mem_cons_of_mem _ (List.mem_append_left _ (List.mem_append_right _ h))) (List.mem_of_getElem? (i := 1) rfl) rfl rfl (by decide) rfl rfl dX1_layOnCause_10 ?_
    refine g_iconst dX1_layOnCause_13 ?_
    refine g_icmp_ne (tgt := 18) (by unfold R32; omega) (by unfold R32; omega) dX1_layOnCause_14 rfl (fun hs3 => ?_) (fun hs3 => ?_)
    · exact g_vret hRet dX1_layOnCause_17 ⟨sl, ld, (by unfold sLay; rw [if_pos (by rw [hMk]; exact hs3)]; exact ⟨rfl, rfl⟩), rfl⟩
    · refine g_aload_n 1 dX1_layOnCause_18 rfl rfl ?_
      refine g_dup dX1_layOnCause_19 rfl ?_
      refine g_get (C := RX1) (T := TX1) (N := 9) 0 8 (fun _ h => List.mem_cons_of_mem _ (List.mem_append_right _ h)) (List.mem_of_getElem? (i := 2) rfl) rfl rfl (by decide) rfl rfl dX1_layOnCause_20 ?_
      refine g_iconst dX1_layOnCause_23 ?_
      refine g_iadd dX1_layOnCause_24 ?_
      refine g_put (C := RX1) (T := TX1) (N := 9) (ws1 := [(v, oo 1 [.ref ma, .int (iI M), .ref fo, .ref la, .int (iI ti), .int (iI so), .int (iI ta), .int (iI go), .int (iI (sl + 1))]), (ma, aM E 6 mq), (la, aI E 8 ld), (ad 0, oo 3 (fMa 0 .null (sd 0) (g 0))), (ad 1, oo 3 (fMa 1 (.ref (ad 0)) (sd 1) (g 1))), (ad 2, oo 3 (fMa 2 (.ref (ad 1)) (sd 2) (g 2))), (ad 3, oo 3 (fMa 3 (.ref (ad 2)) (sd 3) (g 3))), (ad 4, oo 3 (fMa 4 (.ref (ad 3)) (sd 4) (g 4))), (ad 5, oo 3 (fMa 5 (.ref (ad 4)) (sd 5) (g 5)))]) 0 8 (fun _ h => List.mem_cons_of_mem _ (List.mem_append_right _ h)) tyX1 tyX1_ok nmX1 (List.mem_of_getElem? (i := 2) rfl) rfl rfl (by decide) rfl (tyX1_ok 8 (by decide)) rfl rfl (by first | decide | exact Nat.le_of_ble_eq_true rfl) dX1_layOnCause_25 rfl rfl ?_
      refine g_lv (lv1 := [(0, .ref v), (1, .ref (ad 3))]) [1, 0] rfl ?_
      exact K28_3  (by rw [show M.toNat = 4 by omega]) (by rw [hMk]; exact hs3)
  · refine g_as (st1 := [.ref (ad 4)]) ?_ rfl rfl (by rw [hMk]; rfl)
    refine g_astore_n (lv1 := [(1, .ref (ad 4)), (0, .ref v)]) dX1_layOnCause_4 rfl (by decide) rfl ?_
    refine g_aload_n 0 dX1_layOnCause_5 rfl rfl ?_
    refine g_ifnull dX1_layOnCause_6 ?_
    refine g_aload_n 0 dX1_layOnCause_9 rfl rfl ?_
    refine g_get (v := .int (iI ((g 4) 9))) (C := RX3) (T := TX3) (N := 14) 7 12 (fun _ h => List.mem_cons_of_mem _ (List.mem_append_left _ (List.mem_append_right _ h))) (List.mem_of_getElem? (i := 1) rfl) rfl rfl (by decide) rfl rfl dX1_layOnCause_10 ?_
    refine g_iconst dX1_layOnCause_13 ?_
    refine g_icmp_ne (tgt := 18) (by unfold R32; omega) (by unfold R32; omega) dX1_layOnCause_14 rfl (fun hs3 => ?_) (fun hs3 => ?_)
    · exact g_vret hRet dX1_layOnCause_17 ⟨sl, ld, (by unfold sLay; rw [if_pos (by rw [hMk]; exact hs3)]; exact ⟨rfl, rfl⟩), rfl⟩
    · refine g_aload_n 1 dX1_layOnCause_18 rfl rfl ?_
      refine g_dup dX1_layOnCause_19 rfl ?_
      refine g_get (C := RX1) (T := TX1) (N := 9) 0 8 (fun _ h => List.mem_cons_of_mem _ (List.mem_append_right _ h)) (List.mem_of_getElem? (i := 2) rfl) rfl rfl (by decide) rfl rfl dX1_layOnCause_20 ?_
      refine g_iconst dX1_layOnCause_23 ?_
      refine g_iadd dX1_layOnCause_24 ?_
      refine g_put (C := RX1) (T := TX1) (N := 9) (ws1 := [(v, oo 1 [.ref ma, .int (iI M), .ref fo, .ref la, .int (iI ti), .int (iI so), .int (iI ta), .int (iI go), .int (iI (sl + 1))]), (ma, aM E 6 mq), (la, aI E 8 ld), (ad 0, oo 3 (fMa 0 .null (sd 0) (g 0))), (ad 1, oo 3 (fMa 1 (.ref (ad 0)) (sd 1) (g 1))), (ad 2, oo 3 (fMa 2 (.ref (ad 1)) (sd 2) (g 2))), (ad 3, oo 3 (fMa 3 (.ref (ad 2)) (sd 3) (g 3))), (ad 4, oo 3 (fMa 4 (.ref (ad 3)) (sd 4) (g 4))), (ad 5, oo 3 (fMa 5 (.ref (ad 4)) (sd 5) (g 5)))]) 0 8 (fun _ h => List.mem_cons_of_mem _ (List.mem_append_right _ h)) tyX1 tyX1_ok nmX1 (List.mem_of_getElem? (i := 2) rfl) rfl rfl (by decide) rfl (tyX1_ok 8 (by decide)) rfl rfl (by first | decide | exact Nat.le_of_ble_eq_true rfl) dX1_layOnCause_25 rfl rfl ?_
      refine g_lv (lv1 := [(0, .ref v), (1, .ref (ad 4))]) [1, 0] rfl ?_
      exact K28_4  (by rw [show M.toNat = 5 by omega]) (by rw [hMk]; exact hs3)
  · refine g_as (st1 := [.ref (ad 5)]) ?_ rfl rfl (by rw [hMk]; rfl)
    refine g_astore_n (lv1 := [(1, .ref (ad 5)), (0, .ref v)]) dX1_layOnCause_4 rfl (by decide) rfl ?_
    refine g_aload_n 0 dX1_layOnCause_5 rfl rfl ?_
    refine g_ifnull dX1_layOnCause_6 ?_
    refine g_aload_n 0 dX1_layOnCause_9 rfl rfl ?_
    refine g_get (v := .int (iI ((g 5) 9))) (C := RX3) (T := TX3) (N := 14) 8 12 (fun _ h => List.mem_cons_of_mem _ (List.mem_append_left _ (List.mem_append_right _ h))) (List.mem_of_getElem? (i := 1) rfl) rfl rfl (by decide) rfl rfl dX1_layOnCause_10 ?_
    refine g_iconst dX1_layOnCause_13 ?_
    refine g_icmp_ne (tgt := 18) (by unfold R32; omega) (by unfold R32; omega) dX1_layOnCause_14 rfl (fun hs3 => ?_) (fun hs3 => ?_)
    · exact g_vret hRet dX1_layOnCause_17 ⟨sl, ld, (by unfold sLay; rw [if_pos (by rw [hMk]; exact hs3)]; exact ⟨rfl, rfl⟩), rfl⟩
    · refine g_aload_n 1 dX1_layOnCause_18 rfl rfl ?_
      refine g_dup dX1_layOnCause_19 rfl ?_
      refine g_get (C := RX1) (T := TX1) (N := 9) 0 8 (fun _ h => List.mem_cons_of_mem _ (List.mem_append_right _ h)) (List.mem_of_getElem? (i := 2) rfl) rfl rfl (by decide) rfl rfl dX1_layOnCause_20 ?_
      refine g_iconst dX1_layOnCause_23 ?_
      refine g_iadd dX1_layOnCause_24 ?_
      refine g_put (C := RX1) (T := TX1) (N := 9) (ws1 := [(v, oo 1 [.ref ma, .int (iI M), .ref fo, .ref la, .int (iI ti), .int (iI so), .int (iI ta), .int (iI go), .int (iI (sl + 1))]), (ma, aM E 6 mq), (la, aI E 8 ld), (ad 0, oo 3 (fMa 0 .null (sd 0) (g 0))), (ad 1, oo 3 (fMa 1 (.ref (ad 0)) (sd 1) (g 1))), (ad 2, oo 3 (fMa 2 (.ref (ad 1)) (sd 2) (g 2))), (ad 3, oo 3 (fMa 3 (.ref (ad 2)) (sd 3) (g 3))), (ad 4, oo 3 (fMa 4 (.ref (ad 3)) (sd 4) (g 4))), (ad 5, oo 3 (fMa 5 (.ref (ad 4)) (sd 5) (g 5)))]) 0 8 (fun _ h => List.mem_cons_of_mem _ (List.mem_append_right _ h)) tyX1 tyX1_ok nmX1 (List.mem_of_getElem? (i := 2) rfl) rfl rfl (by decide) rfl (tyX1_ok 8 (by decide)) rfl rfl (by first | decide | exact Nat.le_of_ble_eq_true rfl) dX1_layOnCause_25 rfl rfl ?_
      refine g_lv (lv1 := [(0, .ref v), (1, .ref (ad 5))]) [1, 0] rfl ?_
      exact K28_5  (by rw [show M.toNat = 6 by omega]) (by rw [hMk]; exact hs3)

def finM (x : Int) (c : Int → Int) : Int → Int := if x = 3 then up (up c 9 x) 10 (c 10 + 1) else up c 9 x
def gapM (c : Int → Int) (tk : Int) : Int → Int := up c 0 (if tk = 0 then c 0 else c 0 - 1)
/-- one tick's way through the machines k - 1 .. 0 -/
def sPass (F : Int → Bool) (M ti : Int) (S : Int → Int → Int) : Nat → (Int → Int → Int) → Int → Int → Int → (Int → Int → Int) → Int → Int → Int → Prop
  | 0, g, so, ta, go, g', so', ta', go' => g' = g ∧ so' = so ∧ ta' = ta ∧ go' = go
  | k + 1, g, so, ta, go, g', so', ta', go' => ∃ (x : Int) (c' : Int → Int) (tk gd : Int), sStep (F (k : Int)) (k : Int) M ti (if (k : Int) = 0 then so else g ((k : Int) - 1) 0) (S (k : Int)) (g (k : Int)) x c' tk gd ∧
      sPass F M ti S k (if (k : Int) = 0 then ug g (k : Int) (finM x c') else ug (ug g (k : Int) (finM x c')) ((k : Int) - 1) (gapM (g ((k : Int) - 1)) tk)) (if (k : Int) = 0 then (if tk = 0 then so else so - 1) else so) (if (k : Int) = 0 then (if tk = 0 then ta else ta + 1) else ta) (if gd = 0 then go else go + 1) g' so' ta' go'
theorem up_up7 (d : Int → Int) : True := trivial
theorem sEnd_ok {n M ti t : Int} {s d c' : Int → Int} {gd : Int} (h : sEnd n M ti s d c' gd) (hd : mOk d) (h1 : d 7 ≤ t) (h2 : d 8 ≤ t) (h3 : 0 ≤ ti) (h4 : ti ≤ t) (ht : t < 10000) (h5 : d 2 = 0) : (kOk (t + 1) c') ∧ (gd = 0 ∨ gd = 1) := by
  unfold sEnd at h
  unfold mOk at hd
  unfold kOk mOk
  (repeat' split at h) <;> obtain ⟨rfl, rfl⟩ := h <;> simp [up] <;> (try split) <;> omega
theorem sStep_ok {flt : Bool} {n M ti av t : Int} {s c : Int → Int} {x : Int} {c' : Int → Int} {tk gd : Int} (h : sStep flt n M ti av s c x c' tk gd) (hc : kOk t c) (hs : sOk s) (h3 : 0 ≤ ti) (h4 : ti ≤ t) (ht : t < 10000) (hav : 0 ≤ av) : kOk (t + 1) (finM x c') ∧ (gd = 0 ∨ gd = 1) ∧ (tk = 0 ∨ (tk = 1 ∧ 0 < av)) ∧ 0 ≤ x ∧ x ≤ 4 := by
  have key : ∀ (c' : Int → Int), kOk (t + 1) c' → 0 ≤ x → x ≤ 4 → kOk (t + 1) (finM x c') := by
    intro c' h0 h1 h2
    unfold kOk mOk at *
    unfold finM
    split <;> simp [up] <;> omega
  have hw : kOk t c → kOk (t + 1) c := by intro q; unfold kOk at *; exact ⟨q.1, by omega, by omega, by omega, by omega, by omega⟩
  unfold sStep at h
  (repeat' split at h)
  · obtain ⟨rfl, rfl, rfl, rfl⟩ := h; exact ⟨key _ (hw hc) (by omega) (by omega), by omega, by omega, by omega, by omega⟩
  · obtain ⟨rfl, rfl, rfl, rfl⟩ := h; exact ⟨key _ (hw hc) (by omega) (by omega), by omega, by omega, by omega, by omega⟩
  · obtain ⟨rfl, rfl, rfl, rfl⟩ := h; exact ⟨key _ (hw hc) (by omega) (by omega), by omega, by omega, by omega, by omega⟩
  · obtain ⟨rfl, rfl, rfl, rfl⟩ := h
    have g := mOk_give hc.1 (fun q => by unfold sOk at hs; unfold kOk at hc; omega)
    refine ⟨key _ ?_ (by omega) (by omega), by omega, by omega, by omega, by omega⟩
    unfold kOk at *
    refine ⟨g, ?_⟩
    rw [give1_2, give1_o c 1 (by omega) (by omega), give1_o c 3 (by omega) (by omega), give1_o c 7 (by omega) (by omega), give1_o c 8 (by omega) (by omega)]
    omega
  all_goals
    obtain ⟨rfl, ht2, hf⟩ := h
    have g := mOk_work hc.1 (fun q => by unfold sOk at hs; unfold kOk at hc; omega) (by unfold kOk at hc; omega)
    have e2 : work1 c 2 = 0 := by rw [work1_o c 2 (by omega) (by omega), give1_2]
    have e7 : work1 c 7 = c 7 := by rw [work1_o c 7 (by omega) (by omega), give1_o c 7 (by omega) (by omega)]
    have e8 : work1 c 8 = c 8 := by rw [work1_o c 8 (by omega) (by omega), give1_o c 8 (by omega) (by omega)]
    have e1 := work1_1 c
    have e3 := work1_3 c
    have e0 : 0 ≤ c 1 ∧ c 1 ≤ 1 := hc.1.2.1
    unfold sFin at hf
    split at hf
    · obtain ⟨rfl, rfl⟩ := hf
      refine ⟨key _ ?_ (by omega) (by omega), by omega, by (first | omega | (split at ht2 <;> omega)), by omega, by omega⟩
      unfold kOk sOk at *
      refine ⟨g, by omega, by omega, by omega, by split at e1 <;> omega, by omega⟩
    · have hk := sEnd_ok (t := t) hf g (by unfold kOk at hc; omega) (by unfold kOk at hc; omega) h3 h4 ht e2
      exact ⟨key _ hk.1 (by omega) (by omega), hk.2, by (first | omega | (split at ht2 <;> omega)), by omega, by omega⟩

end CONV
