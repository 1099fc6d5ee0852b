section LINE2
theorem cpI_fun {f g : Int → Int} {k : Nat} : va_cpy (fun j : Nat => iI (f (j : Int))) (fun j : Nat => iI (g (j : Int))) 0 0 k = (fun j : Nat => iI (cpI (k : Int) f g (j : Int))) := by
  funext j
  unfold va_cpy cpI
  by_cases h : j < k
  · rw [if_pos (by omega), if_pos (by omega)]
    rw [show 0 + (j - 0) = j by omega]
  · rw [if_neg (by omega), if_neg (by omega)]
section GCOPY
variable {X : Cx} {R : Room} {cc : ByteArray} {nL : Nat} {own : String} {Ts : List Cond} {E : Ev} {zs : Zs} {cells slots : Nat} {ws : va_W} {lv : List (Nat × Value)} {pc : Nat} {st : List Value}
theorem g_copyZ {t N a n index : Nat} {f g : Int → Int} {C nm : String} {k : Nat} {ws1 : va_W} (q1 : Nat) (hz : (t, C, nm, N, f) ∈ zs) (w1 : Cond.methodLink own index arraycopyName ∈ Ts) (w2 : Cond.native arraycopyName ∈ Ts) (w3 : Cond.static arraycopyName ∈ Ts) (w4 : Cond.initialized "java/lang/System" ∈ Ts)
    (ha : ws[q1]? = some (a, aI E n g)) (hw : ws.set q1 (a, aI E n (cpI (k : Int) f g)) = ws1) (hk0 : k ≤ N) (hk1 : k ≤ n) (hkb : k ≤ 1000) (hR : 1 ≤ R.frames ∧ 8 + (nativeFrameWords "java/lang/System" "arraycopy" 5 + 11) ≤ R.locals) (hW8 : (st.map fun v => v.category).sum ≤ 8) (hdg : decode cc pc = .ok (.invokestatic index, 3))
    (kk : G X R cc nL own Ts E zs cells slots ws1 lv (pc + 3) st) : G X R cc nL own Ts E zs cells slots ws lv pc (.int (iI (k : Int)) :: .int (iI 0) :: .ref a :: .int (iI 0) :: .ref t :: st) := by
  obtain ⟨p, l, e, s, m, args, below, meth, c, A, Q⟩ := X
  intro hF hA hK hZ H locs ls hP hD hS hl
  subst hw
  have hlt : ∀ z : Nat, z ≤ 1000 → (iI (z : Int)).toInt = z ∧ (iI (z : Int)).toNatClampNeg = z := by
    intro z hz
    have h1 := iI_toInt (x := (z : Int)) (by unfold R32; omega)
    have h2 := iI_cl (x := (z : Int)) (by omega) (by omega)
    exact ⟨h1, by omega⟩
  have hn0 : ∀ z : Nat, z ≤ 1000 → ¬ iI (z : Int) < 0 := by
    intro z hz q
    have h1 := Int32.lt_iff_toInt_lt.mp q
    rw [(hlt z hz).1] at h1
    have h2 : (0 : Int32).toInt = 0 := by decide
    omega
  have hk' := hlt k hkb
  have h0' := hlt 0 (by omega)
  obtain ⟨scr, hs1, hs2, hs3, hs4, hs5, hs7⟩ := (hZ.1 _ hz).2
  refine va_copyx (n0 := N) (f := fun j : Nat => iI (f (j : Int))) hF.1 hF.2.1 (by rw [hF.2.2.1]; exact hl.1.symm) hF.2.2.2.1 (hF.2.2.2.2 _ w1) (hF.2.2.2.2 _ w2) (hF.2.2.2.2 _ w3) (hF.2.2.2.2 _ w4) hK hP hD hS ⟨scr, hs1, hs2, hs3, hs4, hs5⟩ (Array.getElem?_eq_some_iff.mp hs1).1 hs7 q1 0 ha rfl (hn0 0 (by omega)) (hn0 0 (by omega)) (hn0 k hkb)
    (by rw [show (iI 0).toNatClampNeg = 0 from h0'.2, hk'.2]; omega) (by rw [show (iI 0).toNatClampNeg = 0 from h0'.2, hk'.2]; omega) hR.1 (by have := hR.2; omega) hdg ?_
  intro H1 locs1 hP1 hD1 hS1
  rw [show (iI 0).toNatClampNeg = 0 from h0'.2, hk'.2, cpI_fun] at hP1 hD1
  exact kk hF hA hK hZ H1 locs1 ls hP1 hD1 hS1 hl
end GCOPY

set_option maxHeartbeats 4000000 in
set_option maxRecDepth 100000 in
theorem c_J7_fill_53178 (E : Ev) (a : Nat) (n : Nat) (f : Int → Int) (v : Int) (hn : n ≤ 10000) : MV yJ7_fill_53178 wsJ7_fill_53178 ({ frames := 0, cells := 0, slots := 0, locals := 0 } : Room) E [] 0 0 [.ref a, .int (iI v)] [(a, aI E n f)] (fun u => u = [(a, aI E n (bf ((n : Nat) : Int) v f))]) := by
  refine MV.of (cc := cJ7_fill_53178) (maxL := 4) (own := RJ7) (by decide) rfl rfl rfl (Nat.le_of_ble_eq_true rfl) [(0, .ref a), (1, .int (iI v))] rfl ?_
  intro X hin2 hRet
  refine g_iconst dJ7_fill_53178_0 ?_
  refine g_istore_n (lv1 := [(2, .int (iI 0)), (0, .ref a), (1, .int (iI v))]) dJ7_fill_53178_1 rfl (by decide) rfl ?_
  refine g_as (ws1 := [(a, aI E n (bf 0 v f))]) ?_ (by rw [bf_0]) rfl rfl
  refine g_aload_n 1 dJ7_fill_53178_2 rfl rfl ?_
  refine g_alen 0 dJ7_fill_53178_3 rfl ?_
  refine g_istore_n (lv1 := [(3, .int (iI ((n : Nat) : Int))), (2, .int (iI 0)), (0, .ref a), (1, .int (iI v))]) dJ7_fill_53178_4 rfl (by decide) rfl ?_
  refine g_lv (lv1 := [(0, .ref a), (1, .int (iI v)), (2, .int (iI 0)), (3, .int (iI ((n : Nat) : Int)))]) [2, 3, 1, 0] rfl ?_
  have L5 : ∀ (nn : Nat) (i : Int) (hi : 0 ≤ i ∧ i ≤ ((n : Nat) : Int)) (hm : ((n : Nat) : Int) - i < (nn : Int)), G X ({ frames := 0, cells := 0, slots := 0, locals := 0 } : Room) cJ7_fill_53178 4 RJ7 wsJ7_fill_53178 E [] 0 0 [(a, aI E n (bf i v f))] [(0, .ref a), (1, .int (iI v)), (2, .int (iI i)), (3, .int (iI ((n : Nat) : Int)))] 5 [] := by
    intro nn
    induction nn with
    | zero => intro i hi hm; exfalso; omega
    | succ nn ih5 =>
      intro i hi hm
      refine g_iload_n 2 dJ7_fill_53178_5 rfl rfl ?_
      refine g_iload_n 3 dJ7_fill_53178_6 rfl rfl ?_
      refine g_icmp_ge (tgt := 20) (by unfold R32; omega) (by unfold R32; omega) dJ7_fill_53178_7 rfl (fun c_1 => ?_) (fun c_1 => ?_)
      · refine g_as (ws1 := [(a, aI E n (bf ((n : Nat) : Int) v f))]) ?_ (by rw [show ((n : Nat) : Int) = i by omega]) rfl rfl
        exact g_vret hRet dJ7_fill_53178_20 rfl
      · refine g_aload_n 0 dJ7_fill_53178_10 rfl rfl ?_
        refine g_iload_n 2 dJ7_fill_53178_11 rfl rfl ?_
        refine g_iload_n 1 dJ7_fill_53178_12 rfl rfl ?_
        refine g_iast (ws1 := [(a, aI E n (up (bf i v f) i v))]) 0 dJ7_fill_53178_13 rfl rfl (by omega) (by omega) (by omega) ?_
        refine g_as (ws1 := [(a, aI E n (bf (i + 1) v f))]) ?_ (by rw [bf_s hi.1]) rfl rfl
        refine g_iinc (lv1 := [(2, .int (iI (i + 1))), (0, .ref a), (1, .int (iI v)), (3, .int (iI ((n : Nat) : Int)))]) 2 dJ7_fill_53178_14 rfl (by decide) rfl ?_
        refine g_goto (tgt := 5) dJ7_fill_53178_17 rfl ?_
        refine g_lv (lv1 := [(0, .ref a), (1, .int (iI v)), (2, .int (iI (i + 1))), (3, .int (iI ((n : Nat) : Int)))]) [1, 2, 0, 3] rfl ?_
        exact ih5 (i + 1) (by omega) (by omega)
  exact L5 _ 0 (by omega) (lt_nn _)

set_option maxHeartbeats 4000000 in
set_option maxRecDepth 100000 in
theorem c_X3_renew (E : Ev) (h : Nat) (sa : Nat) (n : Int) (ah : Value) (c : Int → Int) (s : Int → Int) (t5 : Nat)  : MV yX3_renew wsX3_renew ({ frames := 1, cells := 0, slots := 0, locals := 80 } : Room) E [(t5, "CaseLine$Machine", "AT_FIRST", 4, s0)] 0 0 [.ref h] [(h, oo 3 (fMa n ah sa c)), (sa, aI E 4 s)] (fun u => u = [(h, oo 3 (fMa n ah sa c0)), (sa, aI E 4 (cpI 4 s0 s))]) := by
  refine MV.of (cc := cX3_renew) (maxL := 1) (own := RX3) (by decide) rfl rfl rfl (Nat.le_of_ble_eq_true rfl) [(0, .ref h)] rfl ?_
  intro X hin2 hRet
  refine g_gets (List.mem_of_getElem? (i := 0) rfl) (List.mem_of_getElem? (i := 1) rfl) dX3_renew_0 ?_
  refine g_iconst dX3_renew_3 ?_
  refine g_aload_n 0 dX3_renew_4 rfl rfl ?_
  refine g_get (v := .ref sa) (C := RX3) (T := TX3) (N := 14) 0 2 (fun _ h => List.mem_cons_of_mem _ (List.mem_append_right _ h)) (List.mem_of_getElem? (i := 2) rfl) rfl rfl (by decide) rfl rfl dX3_renew_5 ?_
  refine g_iconst dX3_renew_8 ?_
  refine g_iconst dX3_renew_9 ?_
  refine g_copyZ (k := 4) (ws1 := [(h, oo 3 (fMa n ah sa c)), (sa, aI E 4 (cpI 4 s0 s))]) 1 (List.mem_of_getElem? (i := 0) rfl) (List.mem_of_getElem? (i := 3) rfl) (List.mem_of_getElem? (i := 4) rfl) (List.mem_of_getElem? (i := 5) rfl) (List.mem_of_getElem? (i := 6) rfl) rfl rfl (by decide) (by decide) (by decide) (by first | decide | exact ⟨Nat.le_of_ble_eq_true rfl, Nat.le_of_ble_eq_true rfl⟩) (by decide) dX3_renew_10 ?_
  refine g_aload_n 0 dX3_renew_13 rfl rfl ?_
  refine g_iconst dX3_renew_14 ?_
  refine g_put (C := RX3) (T := TX3) (N := 14) (ws1 := [(h, oo 3 (fMa n ah sa (up c 0 0))), (sa, aI E 4 (cpI 4 s0 s))]) 0 3 (fun _ h => List.mem_cons_of_mem _ (List.mem_append_right _ h)) tyX3 tyX3_ok nmX3 (List.mem_of_getElem? (i := 7) rfl) rfl rfl (by decide) rfl (tyX3_ok 3 (by decide)) rfl rfl (by first | decide | exact Nat.le_of_ble_eq_true rfl) dX3_renew_15 rfl rfl ?_
  refine g_aload_n 0 dX3_renew_18 rfl rfl ?_
  refine g_iconst dX3_renew_19 ?_
  refine g_put (C := RX3) (T := TX3) (N := 14) (ws1 := [(h, oo 3 (fMa n ah sa (up (up c 0 0) 1 0))), (sa, aI E 4 (cpI 4 s0 s))]) 0 4 (fun _ h => List.mem_cons_of_mem _ (List.mem_append_right _ h)) tyX3 tyX3_ok nmX3 (List.mem_of_getElem? (i := 8) rfl) rfl rfl (by decide) rfl (tyX3_ok 4 (by decide)) rfl rfl (by first | decide | exact Nat.le_of_ble_eq_true rfl) dX3_renew_20 rfl rfl ?_
  refine g_aload_n 0 dX3_renew_23 rfl rfl ?_
  refine g_iconst dX3_renew_24 ?_
  refine g_put (C := RX3) (T := TX3) (N := 14) (ws1 := [(h, oo 3 (fMa n ah sa (up (up (up c 0 0) 1 0) 2 0))), (sa, aI E 4 (cpI 4 s0 s))]) 0 5 (fun _ h => List.mem_cons_of_mem _ (List.mem_append_right _ h)) tyX3 tyX3_ok nmX3 (List.mem_of_getElem? (i := 9) rfl) rfl rfl (by decide) rfl (tyX3_ok 5 (by decide)) rfl rfl (by first | decide | exact Nat.le_of_ble_eq_true rfl) dX3_renew_25 rfl rfl ?_
  refine g_aload_n 0 dX3_renew_28 rfl rfl ?_
  refine g_iconst dX3_renew_29 ?_
  refine g_put (C := RX3) (T := TX3) (N := 14) (ws1 := [(h, oo 3 (fMa n ah sa (up (up (up (up c 0 0) 1 0) 2 0) 3 0))), (sa, aI E 4 (cpI 4 s0 s))]) 0 6 (fun _ h => List.mem_cons_of_mem _ (List.mem_append_right _ h)) tyX3 tyX3_ok nmX3 (List.mem_of_getElem? (i := 10) rfl) rfl rfl (by decide) rfl (tyX3_ok 6 (by decide)) rfl rfl (by first | decide | exact Nat.le_of_ble_eq_true rfl) dX3_renew_30 rfl rfl ?_
  refine g_aload_n 0 dX3_renew_33 rfl rfl ?_
  refine g_iconst dX3_renew_34 ?_
  refine g_put (C := RX3) (T := TX3) (N := 14) (ws1 := [(h, oo 3 (fMa n ah sa (up (up (up (up (up c 0 0) 1 0) 2 0) 3 0) 4 0))), (sa, aI E 4 (cpI 4 s0 s))]) 0 7 (fun _ h => List.mem_cons_of_mem _ (List.mem_append_right _ h)) tyX3 tyX3_ok nmX3 (List.mem_of_getElem? (i := 11) rfl) rfl rfl (by decide) rfl (tyX3_ok 7 (by decide)) rfl rfl (by first | decide | exact Nat.le_of_ble_eq_true rfl) dX3_renew_35 rfl rfl ?_
  refine g_aload_n 0 dX3_renew_38 rfl rfl ?_
  refine g_iconst dX3_renew_39 ?_
  refine g_put (C := RX3) (T := TX3) (N := 14) (ws1 := [(h, oo 3 (fMa n ah sa (up (up (up (up (up (up c 0 0) 1 0) 2 0) 3 0) 4 0) 5 0))), (sa, aI E 4 (cpI 4 s0 s))]) 0 8 (fun _ h => List.mem_cons_of_mem _ (List.mem_append_right _ h)) tyX3 tyX3_ok nmX3 (List.mem_of_getElem? (i := 12) rfl) rfl rfl (by decide) rfl (tyX3_ok 8 (by decide)) rfl rfl (by first | decide | exact Nat.le_of_ble_eq_true rfl) dX3_renew_40 rfl rfl ?_
  refine g_aload_n 0 dX3_renew_43 rfl rfl ?_
  refine g_iconst dX3_renew_44 ?_
  refine g_put (C := RX3) (T := TX3) (N := 14) (ws1 := [(h, oo 3 (fMa n ah sa (up (up (up (up (up (up (up c 0 0) 1 0) 2 0) 3 0) 4 0) 5 0) 6 0))), (sa, aI E 4 (cpI 4 s0 s))]) 0 9 (fun _ h => List.mem_cons_of_mem _ (List.mem_append_right _ h)) tyX3 tyX3_ok nmX3 (List.mem_of_getElem? (i := 13) rfl) rfl rfl (by decide) rfl (tyX3_ok 9 (by decide)) rfl rfl (by first | decide | exact Nat.le_of_ble_eq_true rfl) dX3_renew_45 rfl rfl ?_
  refine g_aload_n 0 dX3_renew_48 rfl rfl ?_
  refine g_iconst dX3_renew_49 ?_
  refine g_put (C := RX3) (T := TX3) (N := 14) (ws1 := [(h, oo 3 (fMa n ah sa (up (up (up (up (up (up (up (up c 0 0) 1 0) 2 0) 3 0) 4 0) 5 0) 6 0) 7 0))), (sa, aI E 4 (cpI 4 s0 s))]) 0 10 (fun _ h => List.mem_cons_of_mem _ (List.mem_append_right _ h)) tyX3 tyX3_ok nmX3 (List.mem_of_getElem? (i := 14) rfl) rfl rfl (by decide) rfl (tyX3_ok 10 (by decide)) rfl rfl (by first | decide | exact Nat.le_of_ble_eq_true rfl) dX3_renew_50 rfl rfl ?_
  refine g_aload_n 0 dX3_renew_53 rfl rfl ?_
  refine g_iconst dX3_renew_54 ?_
  refine g_put (C := RX3) (T := TX3) (N := 14) (ws1 := [(h, oo 3 (fMa n ah sa (up (up (up (up (up (up (up (up (up c 0 0) 1 0) 2 0) 3 0) 4 0) 5 0) 6 0) 7 0) 8 0))), (sa, aI E 4 (cpI 4 s0 s))]) 0 11 (fun _ h => List.mem_cons_of_mem _ (List.mem_append_right _ h)) tyX3 tyX3_ok nmX3 (List.mem_of_getElem? (i := 15) rfl) rfl rfl (by decide) rfl (tyX3_ok 11 (by decide)) rfl rfl (by first | decide | exact Nat.le_of_ble_eq_true rfl) dX3_renew_55 rfl rfl ?_
  refine g_aload_n 0 dX3_renew_58 rfl rfl ?_
  refine g_bipush dX3_renew_59 rfl ?_
  refine g_put (C := RX3) (T := TX3) (N := 14) (ws1 := [(h, oo 3 (fMa n ah sa (up (up (up (up (up (up (up (up (up (up c 0 0) 1 0) 2 0) 3 0) 4 0) 5 0) 6 0) 7 0) 8 0) 9 (-4)))), (sa, aI E 4 (cpI 4 s0 s))]) 0 12 (fun _ h => List.mem_cons_of_mem _ (List.mem_append_right _ h)) tyX3 tyX3_ok nmX3 (List.mem_of_getElem? (i := 16) rfl) rfl rfl (by decide) rfl (tyX3_ok 12 (by decide)) rfl rfl (by first | decide | exact Nat.le_of_ble_eq_true rfl) dX3_renew_61 rfl rfl ?_
  refine g_aload_n 0 dX3_renew_64 rfl rfl ?_
  refine g_iconst dX3_renew_65 ?_
  refine g_put (C := RX3) (T := TX3) (N := 14) (ws1 := [(h, oo 3 (fMa n ah sa (up (up (up (up (up (up (up (up (up (up (up c 0 0) 1 0) 2 0) 3 0) 4 0) 5 0) 6 0) 7 0) 8 0) 9 (-4)) 10 0))), (sa, aI E 4 (cpI 4 s0 s))]) 0 13 (fun _ h => List.mem_cons_of_mem _ (List.mem_append_right _ h)) tyX3 tyX3_ok nmX3 (List.mem_of_getElem? (i := 17) rfl) rfl rfl (by decide) rfl (tyX3_ok 13 (by decide)) rfl rfl (by first | decide | exact Nat.le_of_ble_eq_true rfl) dX3_renew_66 rfl rfl ?_
  exact g_vret hRet dX3_renew_69 rfl

set_option maxHeartbeats 4000000 in
set_option maxRecDepth 100000 in
theorem c_X1_renew (E : Ev) (v : Nat) (ma : Nat) (fo : Nat) (la : Nat) (M : Int) (ti : Int) (so : Int) (ta : Int) (go : Int) (sl : Int) (mq : Int → Option Nat) (ad : Int → Nat) (sd : Int → Nat) (g : Int → Int → Int) (ld : Int → Int) (S : Int → Int → Int) (f1 : Nat) (f2 : Nat) (f3 : Nat) (nf : Int) (n : Int) (t5 : Nat) (hmq : ∀ k, 0 ≤ k → k < 6 → mq k = some (ad k)) (hn : 2 ≤ n ∧ n ≤ 6) : MV yX1_renew wsX1_renew ({ frames := 2, cells := 0, slots := 0, locals := 100 } : Room) E [(t5, "CaseLine$Machine", "AT_FIRST", 4, s0)] 0 0 [.ref v, .int (iI n)] [(v, oo 1 [.ref ma, .int (iI M), .ref fo, .ref la, .int (iI ti), .int (iI so), .int (iI ta), .int (iI go), .int (iI sl)]), (ma, aM E 6 mq), (fo, oo 2 [.ref f1, .ref f2, .ref f3, .int (iI nf)]), (la, aI E 8 ld), (ad 0, oo 3 (fMa 0 .null (sd 0) (g 0))), (ad 1, oo 3 (fMa 1 (.ref (ad 0)) (sd 1) (g 1))), (ad 2, oo 3 (fMa 2 (.ref (ad 1)) (sd 2) (g 2))), (ad 3, oo 3 (fMa 3 (.ref (ad 2)) (sd 3) (g 3))), (ad 4, oo 3 (fMa 4 (.ref (ad 3)) (sd 4) (g 4))), (ad 5, oo 3 (fMa 5 (.ref (ad 4)) (sd 5) (g 5))), (sd 0, aI E 4 (S 0)), (sd 1, aI E 4 (S 1)), (sd 2, aI E 4 (S 2)), (sd 3, aI E 4 (S 3)), (sd 4, aI E 4 (S 4)), (sd 5, aI E 4 (S 5))] (fun u => u = [(v, oo 1 [.ref ma, .int (iI n), .ref fo, .ref la, .int (iI 0), .int (iI 0), .int (iI 0), .int (iI 0), .int (iI 0)]), (ma, aM E 6 mq), (fo, oo 2 [.ref f1, .ref f2, .ref f3, .int (iI 0)]), (la, aI E 8 (bf 8 0 ld)), (ad 0, oo 3 (fMa 0 .null (sd 0) c0)), (ad 1, oo 3 (fMa 1 (.ref (ad 0)) (sd 1) c0)), (ad 2, oo 3 (fMa 2 (.ref (ad 1)) (sd 2) c0)), (ad 3, oo 3 (fMa 3 (.ref (ad 2)) (sd 3) c0)), (ad 4, oo 3 (fMa 4 (.ref (ad 3)) (sd 4) c0)), (ad 5, oo 3 (fMa 5 (.ref (ad 4)) (sd 5) c0)), (sd 0, aI E 4 (cpI 4 s0 (S 0))), (sd 1, aI E 4 (cpI 4 s0 (S 1))), (sd 2, aI E 4 (cpI 4 s0 (S 2))), (sd 3, aI E 4 (cpI 4 s0 (S 3))), (sd 4, aI E 4 (cpI 4 s0 (S 4))), (sd 5, aI E 4 (cpI 4 s0 (S 5)))]) := by
  refine MV.of (cc := cX1_renew) (maxL := 4) (own := RX1) (by decide) rfl rfl rfl (Nat.le_of_ble_eq_true rfl) [(0, .ref v), (1, .int (iI n))] rfl ?_
  intro X hin2 hRet
  refine g_aload_n 0 dX1_renew_0 rfl rfl ?_
  refine g_iload_n 1 dX1_renew_1 rfl rfl ?_
  refine g_put (C := RX1) (T := TX1) (N := 9) (ws1 := [(v, oo 1 [.ref ma, .int (iI n), .ref fo, .ref la, .int (iI ti), .int (iI so), .int (iI ta), .int (iI go), .int (iI sl)]), (ma, aM E 6 mq), (fo, oo 2 [.ref f1, .ref f2, .ref f3, .int (iI nf)]), (la, aI E 8 ld), (ad 0, oo 3 (fMa 0 .null (sd 0) (g 0))), (ad 1, oo 3 (fMa 1 (.ref (ad 0)) (sd 1) (g 1))), (ad 2, oo 3 (fMa 2 (.ref (ad 1)) (sd 2) (g 2))), (ad 3, oo 3 (fMa 3 (.ref (ad 2)) (sd 3) (g 3))), (ad 4, oo 3 (fMa 4 (.ref (ad 3)) (sd 4) (g 4))), (ad 5, oo 3 (fMa 5 (.ref (ad 4)) (sd 5) (g 5))), (sd 0, aI E 4 (S 0)), (sd 1, aI E 4 (S 1)), (sd 2, aI E 4 (S 2)), (sd 3, aI E 4 (S 3)), (sd 4, aI E 4 (S 4)), (sd 5, aI E 4 (S 5))]) 0 1 (fun _ h => List.mem_cons_of_mem _ (List.mem_append_left _ (List.mem_append_left _ (List.mem_append_right _ h)))) tyX1 tyX1_ok nmX1 (List.mem_of_getElem? (i := 1) rfl) rfl rfl (by decide) rfl (tyX1_ok 1 (by decide)) rfl rfl (by first | decide | exact Nat.le_of_ble_eq_true rfl) dX1_renew_2 rfl rfl ?_
  refine g_iconst dX1_renew_5 ?_
  refine g_istore_n (lv1 := [(2, .int (iI 0)), (0, .ref v), (1, .int (iI n))]) dX1_renew_6 rfl (by decide) rfl ?_
  refine g_iload_n 0 dX1_renew_7 rfl rfl ?_
  refine g_bipush dX1_renew_8 rfl ?_
  refine g_icmp_ge (tgt := 34) (by unfold R32; omega) (by unfold R32; omega) dX1_renew_10 rfl (fun q => absurd q (by decide)) (fun _ => ?_)
  refine g_aload_n 1 dX1_renew_13 rfl rfl ?_
  refine g_get (C := RX1) (T := TX1) (N := 9) 0 0 (fun _ h => List.mem_cons_of_mem _ (List.mem_append_left _ (List.mem_append_left _ (List.mem_append_right _ h)))) (List.mem_of_getElem? (i := 2) rfl) rfl rfl (by decide) rfl rfl dX1_renew_14 ?_
  refine g_iload_n 0 dX1_renew_17 rfl rfl ?_
  refine g_aald 1 dX1_renew_18 rfl (by decide) (by omega) (by omega) ?_
  refine g_as (st1 := [.ref (ad 0)]) ?_ rfl rfl (by rw [hmq 0 (by omega) (by omega)]; rfl)
  refine g_astore_n (lv1 := [(3, .ref (ad 0)), (2, .int (iI 0)), (0, .ref v), (1, .int (iI n))]) dX1_renew_19 rfl (by decide) rfl ?_
  refine g_aload_n 0 dX1_renew_20 rfl rfl ?_
  refine g_ifnull dX1_renew_21 ?_
  refine g_aload_n 0 dX1_renew_24 rfl rfl ?_
  refine g_callV_v (n := 0) (As := []) (wr := [(v, oo 1 [.ref ma, .int (iI n), .ref fo, .ref la, .int (iI ti), .int (iI so), .int (iI ta), .int (iI go), .int (iI sl)]), (ma, aM E 6 mq), (fo, oo 2 [.ref f1, .ref f2, .ref f3, .int (iI nf)]), (la, aI E 8 ld), (ad 1, oo 3 (fMa 1 (.ref (ad 0)) (sd 1) (g 1))), (ad 2, oo 3 (fMa 2 (.ref (ad 1)) (sd 2) (g 2))), (ad 3, oo 3 (fMa 3 (.ref (ad 2)) (sd 3) (g 3))), (ad 4, oo 3 (fMa 4 (.ref (ad 3)) (sd 4) (g 4))), (ad 5, oo 3 (fMa 5 (.ref (ad 4)) (sd 5) (g 5))), (sd 1, aI E 4 (S 1)), (sd 2, aI E 4 (S 2)), (sd 3, aI E 4 (S 3)), (sd 4, aI E 4 (S 4)), (sd 5, aI E 4 (S 5))]) (C := RX3) [] (c_X3_renew E (ad 0) (sd 0) 0 .null (g 0) (S 0) t5) [4, 10] [0, 1, 2, 3, 5, 6, 7, 8, 9, 11, 12, 13, 14, 15] 0 rfl rfl gX1_renew_X3_renew rfl ⟨rfl, by decide +kernel⟩ ⟨by decide, by decide⟩ rfl rfl rfl rfl rfl (by decide) rfl (by decide) (by decide) (fun _ h => h) dX1_renew_25 rfl (Nat.le_of_ble_eq_true rfl) ⟨by decide, by decide⟩ (fun u p_2 => ?_)
  subst p_2
  refine g_perm (ws1 := [(v, oo 1 [.ref ma, .int (iI n), .ref fo, .ref la, .int (iI ti), .int (iI so), .int (iI ta), .int (iI go), .int (iI sl)]), (ma, aM E 6 mq), (fo, oo 2 [.ref f1, .ref f2, .ref f3, .int (iI nf)]), (la, aI E 8 ld), (ad 0, oo 3 (fMa 0 .null (sd 0) c0)), (ad 1, oo 3 (fMa 1 (.ref (ad 0)) (sd 1) (g 1))), (ad 2, oo 3 (fMa 2 (.ref (ad 1)) (sd 2) (g 2))), (ad 3, oo 3 (fMa 3 (.ref (ad 2)) (sd 3) (g 3))), (ad 4, oo 3 (fMa 4 (.ref (ad 3)) (sd 4) (g 4))), (ad 5, oo 3 (fMa 5 (.ref (ad 4)) (sd 5) (g 5))), (sd 0, aI E 4 (cpI 4 s0 (S 0))), (sd 1, aI E 4 (S 1)), (sd 2, aI E 4 (S 2)), (sd 3, aI E 4 (S 3)), (sd 4, aI E 4 (S 4)), (sd 5, aI E 4 (S 5))]) [0, 1, 2, 3, 14, 4, 5, 6, 7, 8, 15, 9, 10, 11, 12, 13] rfl (by decide) rfl ?_
  refine g_iinc (lv1 := [(2, .int (iI 1)), (3, .ref (ad 0)), (0, .ref v), (1, .int (iI n))]) 1 dX1_renew_28 rfl (by decide) rfl ?_
  refine g_goto (tgt := 7) dX1_renew_31 rfl ?_
  refine g_iload_n 0 dX1_renew_7 rfl rfl ?_
  refine g_bipush dX1_renew_8 rfl ?_
  refine g_icmp_ge (tgt := 34) (by unfold R32; omega) (by unfold R32; omega) dX1_renew_10 rfl (fun q => absurd q (by decide)) (fun _ => ?_)
  refine g_aload_n 2 dX1_renew_13 rfl rfl ?_
  refine g_get (C := RX1) (T := TX1) (N := 9) 0 0 (fun _ h => List.mem_cons_of_mem _ (List.mem_append_left _ (List.mem_append_left _ (List.mem_append_right _ h)))) (List.mem_of_getElem? (i := 2) rfl) rfl rfl (by decide) rfl rfl dX1_renew_14 ?_
  refine g_iload_n 0 dX1_renew_17 rfl rfl ?_
  refine g_aald 1 dX1_renew_18 rfl (by decide) (by omega) (by omega) ?_
  refine g_as (st1 := [.ref (ad 1)]) ?_ rfl rfl (by rw [hmq 1 (by omega) (by omega)]; rfl)
  refine g_astore_n (lv1 := [(3, .ref (ad 1)), (2, .int (iI 1)), (0, .ref v), (1, .int (iI n))]) dX1_renew_19 rfl (by decide) rfl ?_
  refine g_aload_n 0 dX1_renew_20 rfl rfl ?_
  refine g_ifnull dX1_renew_21 ?_
  refine g_aload_n 0 dX1_renew_24 rfl rfl ?_
  refine g_callV_v (n := 0) (As := []) (wr := [(v, oo 1 [.ref ma, .int (iI n), .ref fo, .ref la, .int (iI ti), .int (iI so), .int (iI ta), .int (iI go), .int (iI sl)]), (ma, aM E 6 mq), (fo, oo 2 [.ref f1, .ref f2, .ref f3, .int (iI nf)]), (la, aI E 8 ld), (ad 0, oo 3 (fMa 0 .null (sd 0) c0)), (ad 2, oo 3 (fMa 2 (.ref (ad 1)) (sd 2) (g 2))), (ad 3, oo 3 (fMa 3 (.ref (ad 2)) (sd 3) (g 3))), (ad 4, oo 3 (fMa 4 (.ref (ad 3)) (sd 4) (g 4))), (ad 5, oo 3 (fMa 5 (.ref (ad 4)) (sd 5) (g 5))), (sd 0, aI E 4 (cpI 4 s0 (S 0))), (sd 2, aI E 4 (S 2)), (sd 3, aI E 4 (S 3)), (sd 4, aI E 4 (S 4)), (sd 5, aI E 4 (S 5))]) (C := RX3) [] (c_X3_renew E (ad 1) (sd 1) 1 (.ref (ad 0)) (g 1) (S 1) t5) [5, 11] [0, 1, 2, 3, 4, 6, 7, 8, 9, 10, 12, 13, 14, 15] 0 rfl rfl gX1_renew_X3_renew rfl ⟨rfl, by decide +kernel⟩ ⟨by decide, by decide⟩ rfl rfl rfl rfl rfl (by decide) rfl (by decide) (by decide) (fun _ h => h) dX1_renew_25 rfl (Nat.le_of_ble_eq_true rfl) ⟨by decide, by decide⟩ (fun u p_4 => ?_)
  subst p_4
  refine g_perm (ws1 := [(v, oo 1 [.ref ma, .int (iI n), .ref fo, .ref la, .int (iI ti), .int (iI so), .int (iI ta), .int (iI go), .int (iI sl)]), (ma, aM E 6 mq), (fo, oo 2 [.ref f1, .ref f2, .ref f3, .int (iI nf)]), (la, aI E 8 ld), (ad 0, oo 3 (fMa 0 .null (sd 0) c0)), (ad 1, oo 3 (fMa 1 (.ref (ad 0)) (sd 1) c0)), (ad 2, oo 3 (fMa 2 (.ref (ad 1)) (sd 2) (g 2))), (ad 3, oo 3 (fMa 3 (.ref (ad 2)) (sd 3) (g 3))), (ad 4, oo 3 (fMa 4 (.ref (ad 3)) (sd 4) (g 4))), (ad 5, oo 3 (fMa 5 (.ref (ad 4)) (sd 5) (g 5))), (sd 0, aI E 4 (cpI 4 s0 (S 0))), (sd 1, aI E 4 (cpI 4 s0 (S 1))), (sd 2, aI E 4 (S 2)), (sd 3, aI E 4 (S 3)), (sd 4, aI E 4 (S 4)), (sd 5, aI E 4 (S 5))]) [0, 1, 2, 3, 4, 14, 5, 6, 7, 8, 9, 15, 10, 11, 12, 13] rfl (by decide) rfl ?_
  refine g_iinc (lv1 := [(2, .int (iI 2)), (3, .ref (ad 1)), (0, .ref v), (1, .int (iI n))]) 1 dX1_renew_28 rfl (by decide) rfl ?_
  refine g_goto (tgt := 7) dX1_renew_31 rfl ?_
  refine g_iload_n 0 dX1_renew_7 rfl rfl ?_
  refine g_bipush dX1_renew_8 rfl ?_
  refine g_icmp_ge (tgt := 34) (by unfold R32; omega) (by unfold R32; omega) dX1_renew_10 rfl (fun q => absurd q (by decide)) (fun _ => ?_)
  refine g_aload_n 2 dX1_renew_13 rfl rfl ?_
  refine g_get (C := RX1) (T := TX1) (N := 9) 0 0 (fun _ h => List.mem_cons_of_mem _ (List.mem_append_left _ (List.mem_append_left _ (List.mem_append_right _ h)))) (List.mem_of_getElem? (i := 2) rfl) rfl rfl (by decide) rfl rfl dX1_renew_14 ?_
  refine g_iload_n 0 dX1_renew_17 rfl rfl ?_
  refine g_aald 1 dX1_renew_18 rfl (by decide) (by omega) (by omega) ?_
  refine g_as (st1 := [.ref (ad 2)]) ?_ rfl rfl (by rw [hmq 2 (by omega) (by omega)]; rfl)
  refine g_astore_n (lv1 := [(3, .ref (ad 2)), (2, .int (iI 2)), (0, .ref v), (1, .int (iI n))]) dX1_renew_19 rfl (by decide) rfl ?_
  refine g_aload_n 0 dX1_renew_20 rfl rfl ?_
  refine g_ifnull dX1_renew_21 ?_
  refine g_aload_n 0 dX1_renew_24 rfl rfl ?_
  refine g_callV_v (n := 0) (As := []) (wr := [(v, oo 1 [.ref ma, .int (iI n), .ref fo, .ref la, .int (iI ti), .int (iI so), .int (iI ta), .int (iI go), .int (iI sl)]), (ma, aM E 6 mq), (fo, oo 2 [.ref f1, .ref f2, .ref f3, .int (iI nf)]), (la, aI E 8 ld), (ad 0, oo 3 (fMa 0 .null (sd 0) c0)), (ad 1, oo 3 (fMa 1 (.ref (ad 0)) (sd 1) c0)), (ad 3, oo 3 (fMa 3 (.ref (ad 2)) (sd 3) (g 3))), (ad 4, oo 3 (fMa 4 (.ref (ad 3)) (sd 4) (g 4))), (ad 5, oo 3 (fMa 5 (.ref (ad 4)) (sd 5) (g 5))), (sd 0, aI E 4 (cpI 4 s0 (S 0))), (sd 1, aI E 4 (cpI 4 s0 (S 1))), (sd 3, aI E 4 (S 3)), (sd 4, aI E 4 (S 4)), (sd 5, aI E 4 (S 5))]) (C := RX3) [] (c_X3_renew E (ad 2) (sd 2) 2 (.ref (ad 1)) (g 2) (S 2) t5) [6, 12] [0, 1, 2, 3, 4, 5, 7, 8, 9, 10, 11, 13, 14, 15] 0 rfl rfl gX1_renew_X3_renew rfl ⟨rfl, by decide +kernel⟩ ⟨by decide, by decide⟩ rfl rfl rfl rfl rfl (by decide) rfl (by decide) (by decide) (fun _ h => h) dX1_renew_25 rfl (Nat.le_of_ble_eq_true rfl) ⟨by decide, by decide⟩ (fun u p_6 => ?_)
  subst p_6
  refine g_perm (ws1 := [(v, oo 1 [.ref ma, .int (iI n), .ref fo, .ref la, .int (iI ti), .int (iI so), .int (iI ta), .int (iI go), .int (iI sl)]), (ma, aM E 6 mq), (fo, oo 2 [.ref f1, .ref f2, .ref f3, .int (iI nf)]), (la, aI E 8 ld), (ad 0, oo 3 (fMa 0 .null (sd 0) c0)), (ad 1, oo 3 (fMa 1 (.ref (ad 0)) (sd 1) c0)), (ad 2, oo 3 (fMa 2 (.ref (ad 1)) (sd 2) c0)), (ad 3, oo 3 (fMa 3 (.ref (ad 2)) (sd 3) (g 3))), (ad 4, oo 3 (fMa 4 (.ref (ad 3)) (sd 4) (g 4))), (ad 5, oo 3 (fMa 5 (.ref (ad 4)) (sd 5) (g 5))), (sd 0, aI E 4 (cpI 4 s0 (S 0))), (sd 1, aI E 4 (cpI 4 s0 (S 1))), (sd 2, aI E 4 (cpI 4 s0 (S 2))), (sd 3, aI E 4 (S 3)), (sd 4, aI E 4 (S 4)), (sd 5, aI E 4 (S 5))]) [0, 1, 2, 3, 4, 5, 14, 6, 7, 8, 9, 10, 15, 11, 12, 13] rfl (by decide) rfl ?_
  refine g_iinc (lv1 := [(2, .int (iI 3)), (3, .ref (ad 2)), (0, .ref v), (1, .int (iI n))]) 1 dX1_renew_28 rfl (by decide) rfl ?_
  refine g_goto (tgt := 7) dX1_renew_31 rfl ?_
  refine g_iload_n 0 dX1_renew_7 rfl rfl ?_
  refine g_bipush dX1_renew_8 rfl ?_
  refine g_icmp_ge (tgt := 34) (by unfold R32; omega) (by unfold R32; omega) dX1_renew_10 rfl (fun q => absurd q (by decide)) (fun _ => ?_)
  refine g_aload_n 2 dX1_renew_13 rfl rfl ?_
  refine g_get (C := RX1) (T := TX1) (N := 9) 0 0 (fun _ h => List.mem_cons_of_mem _ (List.mem_append_left _ (List.mem_append_left _ (List.mem_append_right _ h)))) (List.mem_of_getElem? (i := 2) rfl) rfl rfl (by decide) rfl rfl dX1_renew_14 ?_
  refine g_iload_n 0 dX1_renew_17 rfl rfl ?_
  refine g_aald 1 dX1_renew_18 rfl (by decide) (by omega) (by omega) ?_
  refine g_as (st1 := [.ref (ad 3)]) ?_ rfl rfl (by rw [hmq 3 (by omega) (by omega)]; rfl)
  refine g_astore_n (lv1 := [(3, .ref (ad 3)), (2, .int (iI 3)), (0, .ref v), (1, .int (iI n))]) dX1_renew_19 rfl (by decide) rfl ?_
  refine g_aload_n 0 dX1_renew_20 rfl rfl ?_
  refine g_ifnull dX1_renew_21 ?_
  refine g_aload_n 0 dX1_renew_24 rfl rfl ?_
  refine g_callV_v (n := 0) (As := []) (wr := [(v, oo 1 [.ref ma, .int (iI n), .ref fo, .ref la, .int (iI ti), .int (iI so), .int (iI ta), .int (iI go), .int (iI sl)]), (ma, aM E 6 mq), (fo, oo 2 [.ref f1, .ref f2, .ref f3, .int (iI nf)]), (la, aI E 8 ld), (ad 0, oo 3 (fMa 0 .null (sd 0) c0)), (ad 1, oo 3 (fMa 1 (.ref (ad 0)) (sd 1) c0)), (ad 2, oo 3 (fMa 2 (.ref (ad 1)) (sd 2) c0)), (ad 4, oo 3 (fMa 4 (.ref (ad 3)) (sd 4) (g 4))), (ad 5, oo 3 (fMa 5 (.ref (ad 4)) (sd 5) (g 5))), (sd 0, aI E 4 (cpI 4 s0 (S 0))), (sd 1, aI E 4 (cpI 4 s0 (S 1))), (sd 2, aI E 4 (cpI 4 s0 (S 2))), (sd 4, aI E 4 (S 4)), (sd 5, aI E 4 (S 5))]) (C := RX3) [] (c_X3_renew E (ad 3) (sd 3) 3 (.ref (ad 2)) (g 3) (S 3) t5) [7, 13] [0, 1, 2, 3, 4, 5, 6, 8, 9, 10, 11, 12, 14, 15] 0 rfl rfl gX1_renew_X3_renew rfl ⟨rfl, by decide +kernel⟩ ⟨by decide, by decide⟩ rfl rfl rfl rfl rfl (by decide) rfl (by decide) (by decide) (fun _ h => h) dX1_renew_25 rfl (Nat.le_of_ble_eq_true rfl) ⟨by decide, by decide⟩ (fun u p_8 => ?_)
  subst p_8
  refine g_perm (ws1 := [(v, oo 1 [.ref ma, .int (iI n), .ref fo, .ref la, .int (iI ti), .int (iI so), .int (iI ta), .int (iI go), .int (iI sl)]), (ma, aM E 6 mq), (fo, oo 2 [.ref f1, .ref f2, .ref f3, .int (iI nf)]), (la, aI E 8 ld), (ad 0, oo 3 (fMa 0 .null (sd 0) c0)), (ad 1, oo 3 (fMa 1 (.ref (ad 0)) (sd 1) c0)), (ad 2, oo 3 (fMa 2 (.ref (ad 1)) (sd 2) c0)), (ad 3, oo 3 (fMa 3 (.ref (ad 2)) (sd 3) c0)), (ad 4, oo 3 (fMa 4 (.ref (ad 3)) (sd 4) (g 4))), (ad 5, oo 3 (fMa 5 (.ref (ad 4)) (sd 5) (g 5))), (sd 0, aI E 4 (cpI 4 s0 (S 0))), (sd 1, aI E 4 (cpI 4 s0 (S 1))), (sd 2, aI E 4 (cpI 4 s0 (S 2))), (sd 3, aI E 4 (cpI 4 s0 (S 3))), (sd 4, aI E 4 (S 4)), (sd 5, aI E 4 (S 5))]) [0, 1, 2, 3, 4, 5, 6, 14, 7, 8, 9, 10, 11, 15, 12, 13] rfl (by decide) rfl ?_
  refine g_iinc (lv1 := [(2, .int (iI 4)), (3, .ref (ad 3)), (0, .ref v), (1, .int (iI n))]) 1 dX1_renew_28 rfl (by decide) rfl ?_
  refine g_goto (tgt := 7) dX1_renew_31 rfl ?_
  refine g_iload_n 0 dX1_renew_7 rfl rfl ?_
  refine g_bipush dX1_renew_8 rfl ?_
  refine g_icmp_ge (tgt := 34) (by unfold R32; omega) (by unfold R32; omega) dX1_renew_10 rfl (fun q => absurd q (by decide)) (fun _ => ?_)
  refine g_aload_n 2 dX1_renew_13 rfl rfl ?_
  refine g_get (C := RX1) (T := TX1) (N := 9) 0 0 (fun _ h => List.mem_cons_of_mem _ (List.mem_append_left _ (List.mem_append_left _ (List.mem_append_right _ h)))) (List.mem_of_getElem? (i := 2) rfl) rfl rfl (by decide) rfl rfl dX1_renew_14 ?_
  refine g_iload_n 0 dX1_renew_17 rfl rfl ?_
  refine g_aald 1 dX1_renew_18 rfl (by decide) (by omega) (by omega) ?_
  refine g_as (st1 := [.ref (ad 4)]) ?_ rfl rfl (by rw [hmq 4 (by omega) (by omega)]; rfl)
  refine g_astore_n (lv1 := [(3, .ref (ad 4)), (2, .int (iI 4)), (0, .ref v), (1, .int (iI n))]) dX1_renew_19 rfl (by decide) rfl ?_
  refine g_aload_n 0 dX1_renew_20 rfl rfl ?_
  refine g_ifnull dX1_renew_21 ?_
  refine g_aload_n 0 dX1_renew_24 rfl rfl ?_
  refine g_callV_v (n := 0) (As := []) (wr := [(v, oo 1 [.ref ma, .int (iI n), .ref fo, .ref la, .int (iI ti), .int (iI so), .int (iI ta), .int (iI go), .int (iI sl)]), (ma, aM E 6 mq), (fo, oo 2 [.ref f1, .ref f2, .ref f3, .int (iI nf)]), (la, aI E 8 ld), (ad 0, oo 3 (fMa 0 .null (sd 0) c0)), (ad 1, oo 3 (fMa 1 (.ref (ad 0)) (sd 1) c0)), (ad 2, oo 3 (fMa 2 (.ref (ad 1)) (sd 2) c0)), (ad 3, oo 3 (fMa 3 (.ref (ad 2)) (sd 3) c0)), (ad 5, oo 3 (fMa 5 (.ref (ad 4)) (sd 5) (g 5))), (sd 0, aI E 4 (cpI 4 s0 (S 0))), (sd 1, aI E 4 (cpI 4 s0 (S 1))), (sd 2, aI E 4 (cpI 4 s0 (S 2))), (sd 3, aI E 4 (cpI 4 s0 (S 3))), (sd 5, aI E 4 (S 5))]) (C := RX3) [] (c_X3_renew E (ad 4) (sd 4) 4 (.ref (ad 3)) (g 4) (S 4) t5) [8, 14] [0, 1, 2, 3, 4, 5, 6, 7, 9, 10, 11, 12, 13, 15] 0 rfl rfl gX1_renew_X3_renew rfl ⟨rfl, by decide +kernel⟩ ⟨by decide, by decide⟩ rfl rfl rfl rfl rfl (by decide) rfl (by decide) (by decide) (fun _ h => h) dX1_renew_25 rfl (Nat.le_of_ble_eq_true rfl) ⟨by decide, by decide⟩ (fun u p_10 => ?_)
  subst p_10
  refine g_perm (ws1 := [(v, oo 1 [.ref ma, .int (iI n), .ref fo, .ref la, .int (iI ti), .int (iI so), .int (iI ta), .int (iI go), .int (iI sl)]), (ma, aM E 6 mq), (fo, oo 2 [.ref f1, .ref f2, .ref f3, .int (iI nf)]), (la, aI E 8 ld), (ad 0, oo 3 (fMa 0 .null (sd 0) c0)), (ad 1, oo 3 (fMa 1 (.ref (ad 0)) (sd 1) c0)), (ad 2, oo 3 (fMa 2 (.ref (ad 1)) (sd 2) c0)), (ad 3, oo 3 (fMa 3 (.ref (ad 2)) (sd 3) c0)), (ad 4, oo 3 (fMa 4 (.ref (ad 3)) (sd 4) c0)), (ad 5, oo 3 (fMa 5 (.ref (ad 4)) (sd 5) (g 5))), (sd 0, aI E 4 (cpI 4 s0 (S 0))), (sd 1, aI E 4 (cpI 4 s0 (S 1))), (sd 2, aI E 4 (cpI 4 s0 (S 2))), (sd 3, aI E 4 (cpI 4 s0 (S 3))), (sd 4, aI E 4 (cpI 4 s0 (S 4))), (sd 5, aI E 4 (S 5))]) [0, 1, 2, 3, 4, 5, 6, 7, 14, 8, 9, 10, 11, 12, 15, 13] rfl (by decide) rfl ?_
  refine g_iinc (lv1 := [(2, .int (iI 5)), (3, .ref (ad 4)), (0, .ref v), (1, .int (iI n))]) 1 dX1_renew_28 rfl (by decide) rfl ?_
  refine g_goto (tgt := 7) dX1_renew_31 rfl ?_
  refine g_iload_n 0 dX1_renew_7 rfl rfl ?_
  refine g_bipush dX1_renew_8 rfl ?_
  refine g_icmp_ge (tgt := 34) (by unfold R32; omega) (by unfold R32; omega) dX1_renew_10 rfl (fun q => absurd q (by decide)) (fun _ => ?_)
  refine g_aload_n 2 dX1_renew_13 rfl rfl ?_
  refine g_get (C := RX1) (T := TX1) (N := 9) 0 0 (fun _ h => List.mem_cons_of_mem _ (List.mem_append_left _ (List.mem_append_left _ (List.mem_append_right _ h)))) (List.mem_of_getElem? (i := 2) rfl) rfl rfl (by decide) rfl rfl dX1_renew_14 ?_
  refine g_iload_n 0 dX1_renew_17 rfl rfl ?_
  refine g_aald 1 dX1_renew_18 rfl (by decide) (by omega) (by omega) ?_
  refine g_as (st1 := [.ref (ad 5)]) ?_ rfl rfl (by rw [hmq 5 (by omega) (by omega)]; rfl)
  refine g_astore_n (lv1 := [(3, .ref (ad 5)), (2, .int (iI 5)), (0, .ref v), (1, .int (iI n))]) dX1_renew_19 rfl (by decide) rfl ?_
  refine g_aload_n 0 dX1_renew_20 rfl rfl ?_
  refine g_ifnull dX1_renew_21 ?_
  refine g_aload_n 0 dX1_renew_24 rfl rfl ?_
  refine g_callV_v (n := 0) (As := []) (wr := [(v, oo 1 [.ref ma, .int (iI n), .ref fo, .ref la, .int (iI ti), .int (iI so), .int (iI ta), .int (iI go), .int (iI sl)]), (ma, aM E 6 mq), (fo, oo 2 [.ref f1, .ref f2, .ref f3, .int (iI nf)]), (la, aI E 8 ld), (ad 0, oo 3 (fMa 0 .null (sd 0) c0)), (ad 1, oo 3 (fMa 1 (.ref (ad 0)) (sd 1) c0)), (ad 2, oo 3 (fMa 2 (.ref (ad 1)) (sd 2) c0)), (ad 3, oo 3 (fMa 3 (.ref (ad 2)) (sd 3) c0)), (ad 4, oo 3 (fMa 4 (.ref (ad 3)) (sd 4) c0)), (sd 0, aI E 4 (cpI 4 s0 (S 0))), (sd 1, aI E 4 (cpI 4 s0 (S 1))), (sd 2, aI E 4 (cpI 4 s0 (S 2))), (sd 3, aI E 4 (cpI 4 s0 (S 3))), (sd 4, aI E 4 (cpI 4 s0 (S 4)))]) (C := RX3) [] (c_X3_renew E (ad 5) (sd 5) 5 (.ref (ad 4)) (g 5) (S 5) t5) [9, 15] [0, 1, 2, 3, 4, 5, 6, 7, 8, 10, 11, 12, 13, 14] 0 rfl rfl gX1_renew_X3_renew rfl ⟨rfl, by decide +kernel⟩ ⟨by decide, by decide⟩ rfl rfl rfl rfl rfl (by decide) rfl (by decide) (by decide) (fun _ h => h) dX1_renew_25 rfl (Nat.le_of_ble_eq_true rfl) ⟨by decide, by decide⟩ (fun u p_12 => ?_)
  subst p_12
  refine g_perm (ws1 := [(v, oo 1 [.ref ma, .int (iI n), .ref fo, .ref la, .int (iI ti), .int (iI so), .int (iI ta), .int (iI go), .int (iI sl)]), (ma, aM E 6 mq), (fo, oo 2 [.ref f1, .ref f2, .ref f3, .int (iI nf)]), (la, aI E 8 ld), (ad 0, oo 3 (fMa 0 .null (sd 0) c0)), (ad 1, oo 3 (fMa 1 (.ref (ad 0)) (sd 1) c0)), (ad 2, oo 3 (fMa 2 (.ref (ad 1)) (sd 2) c0)), (ad 3, oo 3 (fMa 3 (.ref (ad 2)) (sd 3) c0)), (ad 4, oo 3 (fMa 4 (.ref (ad 3)) (sd 4) c0)), (ad 5, oo 3 (fMa 5 (.ref (ad 4)) (sd 5) c0)), (sd 0, aI E 4 (cpI 4 s0 (S 0))), (sd 1, aI E 4 (cpI 4 s0 (S 1))), (sd 2, aI E 4 (cpI 4 s0 (S 2))), (sd 3, aI E 4 (cpI 4 s0 (S 3))), (sd 4, aI E 4 (cpI 4 s0 (S 4))), (sd 5, aI E 4 (cpI 4 s0 (S 5)))]) [0, 1, 2, 3, 4, 5, 6, 7, 8, 14, 9, 10, 11, 12, 13, 15] rfl (by decide) rfl ?_
  refine g_iinc (lv1 := [(2, .int (iI 6)), (3, .ref (ad 5)), (0, .ref v), (1, .int (iI n))]) 1 dX1_renew_28 rfl (by decide) rfl ?_
  refine g_goto (tgt := 7) dX1_renew_31 rfl ?_
  refine g_iload_n 0 dX1_renew_7 rfl rfl ?_
  refine g_bipush dX1_renew_8 rfl ?_
  refine g_icmp_ge (tgt := 34) (by unfold R32; omega) (by unfold R32; omega) dX1_renew_10 rfl (fun _ => ?_) (fun q => absurd q (by decide))
  refine g_aload_n 2 dX1_renew_34 rfl rfl ?_
  refine g_get (C := RX1) (T := TX1) (N := 9) 0 2 (fun _ h => List.mem_cons_of_mem _ (List.mem_append_left _ (List.mem_append_left _ (List.mem_append_right _ h)))) (List.mem_of_getElem? (i := 3) rfl) rfl rfl (by decide) rfl rfl dX1_renew_35 ?_
  refine g_callV_v (n := 0) (As := []) (wr := [(v, oo 1 [.ref ma, .int (iI n), .ref fo, .ref la, .int (iI ti), .int (iI so), .int (iI ta), .int (iI go), .int (iI sl)]), (ma, aM E 6 mq), (la, aI E 8 ld), (ad 0, oo 3 (fMa 0 .null (sd 0) c0)), (ad 1, oo 3 (fMa 1 (.ref (ad 0)) (sd 1) c0)), (ad 2, oo 3 (fMa 2 (.ref (ad 1)) (sd 2) c0)), (ad 3, oo 3 (fMa 3 (.ref (ad 2)) (sd 3) c0)), (ad 4, oo 3 (fMa 4 (.ref (ad 3)) (sd 4) c0)), (ad 5, oo 3 (fMa 5 (.ref (ad 4)) (sd 5) c0)), (sd 0, aI E 4 (cpI 4 s0 (S 0))), (sd 1, aI E 4 (cpI 4 s0 (S 1))), (sd 2, aI E 4 (cpI 4 s0 (S 2))), (sd 3, aI E 4 (cpI 4 s0 (S 3))), (sd 4, aI E 4 (cpI 4 s0 (S 4))), (sd 5, aI E 4 (cpI 4 s0 (S 5)))]) (C := RX2) [] (c_X2_clear E fo f1 f2 f3 nf) [2] [0, 1, 3, 4, 5, 6, 7, 8, 9, 10, 11, 12, 13, 14, 15] 0 rfl rfl gX1_renew_X2_clear rfl ⟨rfl, by decide +kernel⟩ ⟨by decide, by decide⟩ rfl rfl rfl rfl rfl (by decide) rfl (by decide) (by decide) (fun _ h => absurd h List.not_mem_nil) dX1_renew_38 rfl (Nat.le_of_ble_eq_true rfl) ⟨by decide, by decide⟩ (fun u p_14 => ?_)
  subst p_14
  refine g_perm (ws1 := [(v, oo 1 [.ref ma, .int (iI n), .ref fo, .ref la, .int (iI ti), .int (iI so), .int (iI ta), .int (iI go), .int (iI sl)]), (ma, aM E 6 mq), (fo, oo 2 [.ref f1, .ref f2, .ref f3, .int (iI 0)]), (la, aI E 8 ld), (ad 0, oo 3 (fMa 0 .null (sd 0) c0)), (ad 1, oo 3 (fMa 1 (.ref (ad 0)) (sd 1) c0)), (ad 2, oo 3 (fMa 2 (.ref (ad 1)) (sd 2) c0)), (ad 3, oo 3 (fMa 3 (.ref (ad 2)) (sd 3) c0)), (ad 4, oo 3 (fMa 4 (.ref (ad 3)) (sd 4) c0)), (ad 5, oo 3 (fMa 5 (.ref (ad 4)) (sd 5) c0)), (sd 0, aI E 4 (cpI 4 s0 (S 0))), (sd 1, aI E 4 (cpI 4 s0 (S 1))), (sd 2, aI E 4 (cpI 4 s0 (S 2))), (sd 3, aI E 4 (cpI 4 s0 (S 3))), (sd 4, aI E 4 (cpI 4 s0 (S 4))), (sd 5, aI E 4 (cpI 4 s0 (S 5)))]) [0, 1, 15, 2, 3, 4, 5, 6, 7, 8, 9, 10, 11, 12, 13, 14] rfl (by decide) rfl ?_
  refine g_aload_n 2 dX1_renew_41 rfl rfl ?_
  refine g_get (C := RX1) (T := TX1) (N := 9) 0 3 (fun _ h => List.mem_cons_of_mem _ (List.mem_append_left _ (List.mem_append_left _ (List.mem_append_right _ h)))) (List.mem_of_getElem? (i := 4) rfl) rfl rfl (by decide) rfl rfl dX1_renew_42 ?_
  refine g_iconst dX1_renew_45 ?_
  refine g_callO_v (n := 2) (As := [.ref la, .int (iI 0)]) (wr := [(v, oo 1 [.ref ma, .int (iI n), .ref fo, .ref la, .int (iI ti), .int (iI so), .int (iI ta), .int (iI go), .int (iI sl)]), (ma, aM E 6 mq), (fo, oo 2 [.ref f1, .ref f2, .ref f3, .int (iI 0)]), (ad 0, oo 3 (fMa 0 .null (sd 0) c0)), (ad 1, oo 3 (fMa 1 (.ref (ad 0)) (sd 1) c0)), (ad 2, oo 3 (fMa 2 (.ref (ad 1)) (sd 2) c0)), (ad 3, oo 3 (fMa 3 (.ref (ad 2)) (sd 3) c0)), (ad 4, oo 3 (fMa 4 (.ref (ad 3)) (sd 4) c0)), (ad 5, oo 3 (fMa 5 (.ref (ad 4)) (sd 5) c0)), (sd 0, aI E 4 (cpI 4 s0 (S 0))), (sd 1, aI E 4 (cpI 4 s0 (S 1))), (sd 2, aI E 4 (cpI 4 s0 (S 2))), (sd 3, aI E 4 (cpI 4 s0 (S 3))), (sd 4, aI E 4 (cpI 4 s0 (S 4))), (sd 5, aI E 4 (cpI 4 s0 (S 5)))]) [] (c_J7_fill_53178 E la 8 ld 0 (by omega)) [3] [0, 1, 2, 4, 5, 6, 7, 8, 9, 10, 11, 12, 13, 14, 15] gX1_renew_J7_fill_53178 rfl (by decide +kernel) ⟨by decide, by decide⟩ rfl rfl rfl rfl rfl (by decide) rfl (by decide) (by decide) (fun _ h => absurd h List.not_mem_nil) dX1_renew_46 rfl (Nat.le_of_ble_eq_true rfl) ⟨by decide, by decide⟩ (fun u p_15 => ?_)
  subst p_15
  refine g_perm (ws1 := [(v, oo 1 [.ref ma, .int (iI n), .ref fo, .ref la, .int (iI ti), .int (iI so), .int (iI ta), .int (iI go), .int (iI sl)]), (ma, aM E 6 mq), (fo, oo 2 [.ref f1, .ref f2, .ref f3, .int (iI 0)]), (la, aI E 8 (bf ((8 : Nat) : Int) 0 ld)), (ad 0, oo 3 (fMa 0 .null (sd 0) c0)), (ad 1, oo 3 (fMa 1 (.ref (ad 0)) (sd 1) c0)), (ad 2, oo 3 (fMa 2 (.ref (ad 1)) (sd 2) c0)), (ad 3, oo 3 (fMa 3 (.ref (ad 2)) (sd 3) c0)), (ad 4, oo 3 (fMa 4 (.ref (ad 3)) (sd 4) c0)), (ad 5, oo 3 (fMa 5 (.ref (ad 4)) (sd 5) c0)), (sd 0, aI E 4 (cpI 4 s0 (S 0))), (sd 1, aI E 4 (cpI 4 s0 (S 1))), (sd 2, aI E 4 (cpI 4 s0 (S 2))), (sd 3, aI E 4 (cpI 4 s0 (S 3))), (sd 4, aI E 4 (cpI 4 s0 (S 4))), (sd 5, aI E 4 (cpI 4 s0 (S 5)))]) [0, 1, 2, 15, 3, 4, 5, 6, 7, 8, 9, 10, 11, 12, 13, 14] rfl (by decide) rfl ?_
  refine g_aload_n 2 dX1_renew_49 rfl rfl ?_
  refine g_iconst dX1_renew_50 ?_
  refine g_put (C := RX1) (T := TX1) (N := 9) (ws1 := [(v, oo 1 [.ref ma, .int (iI n), .ref fo, .ref la, .int (iI 0), .int (iI so), .int (iI ta), .int (iI go), .int (iI sl)]), (ma, aM E 6 mq), (fo, oo 2 [.ref f1, .ref f2, .ref f3, .int (iI 0)]), (la, aI E 8 (bf ((8 : Nat) : Int) 0 ld)), (ad 0, oo 3 (fMa 0 .null (sd 0) c0)), (ad 1, oo 3 (fMa 1 (.ref (ad 0)) (sd 1) c0)), (ad 2, oo 3 (fMa 2 (.ref (ad 1)) (sd 2) c0)), (ad 3, oo 3 (fMa 3 (.ref (ad 2)) (sd 3) c0)), (ad 4, oo 3 (fMa 4 (.ref (ad 3)) (sd 4) c0)), (ad 5, oo 3 (fMa 5 (.ref (ad 4)) (sd 5) c0)), (sd 0, aI E 4 (cpI 4 s0 (S 0))), (sd 1, aI E 4 (cpI 4 s0 (S 1))), (sd 2, aI E 4 (cpI 4 s0 (S 2))), (sd 3, aI E 4 (cpI 4 s0 (S 3))), (sd 4, aI E 4 (cpI 4 s0 (S 4))), (sd 5, aI E 4 (cpI 4 s0 (S 5)))]) 0 4 (fun _ h => List.mem_cons_of_mem _ (List.mem_append_left _ (List.mem_append_left _ (List.mem_append_right _ h)))) tyX1 tyX1_ok nmX1 (List.mem_of_getElem? (i := 5) rfl) rfl rfl (by decide) rfl (tyX1_ok 4 (by decide)) rfl rfl (by first | decide | exact Nat.le_of_ble_eq_true rfl) dX1_renew_51 rfl rfl ?_
  refine g_aload_n 2 dX1_renew_54 rfl rfl ?_
  refine g_iconst dX1_renew_55 ?_
  refine g_put (C := RX1) (T := TX1) (N := 9) (ws1 := [(v, oo 1 [.ref ma, .int (iI n), .ref fo, .ref la, .int (iI 0), .int (iI 0), .int (iI ta), .int (iI go), .int (iI sl)]), (ma, aM E 6 mq), (fo, oo 2 [.ref f1, .ref f2, .ref f3, .int (iI 0)]), (la, aI E 8 (bf ((8 : Nat) : Int) 0 ld)), (ad 0, oo 3 (fMa 0 .null (sd 0) c0)), (ad 1, oo 3 (fMa 1 (.ref (ad 0)) (sd 1) c0)), (ad 2, oo 3 (fMa 2 (.ref (ad 1)) (sd 2) c0)), (ad 3, oo 3 (fMa 3 (.ref (ad 2)) (sd 3) c0)), (ad 4, oo 3 (fMa 4 (.ref (ad 3)) (sd 4) c0)), (ad 5, oo 3 (fMa 5 (.ref (ad 4)) (sd 5) c0)), (sd 0, aI E 4 (cpI 4 s0 (S 0))), (sd 1, aI E 4 (cpI 4 s0 (S 1))), (sd 2, aI E 4 (cpI 4 s0 (S 2))), (sd 3, aI E 4 (cpI 4 s0 (S 3))), (sd 4, aI E 4 (cpI 4 s0 (S 4))), (sd 5, aI E 4 (cpI 4 s0 (S 5)))]) 0 5 (fun _ h => List.mem_cons_of_mem _ (List.mem_append_left _ (List.mem_append_left _ (List.mem_append_right _ h)))) tyX1 tyX1_ok nmX1 (List.mem_of_getElem? (i := 6) rfl) rfl rfl (by decide) rfl (tyX1_ok 5 (by decide)) rfl rfl (by first | decide | exact Nat.le_of_ble_eq_true rfl) dX1_renew_56 rfl rfl ?_
  refine g_aload_n 2 dX1_renew_59 rfl rfl ?_
  refine g_iconst dX1_renew_60 ?_
  refine g_put (C := RX1) (T := TX1) (N := 9) (ws1 := [(v, oo 1 [.ref ma, .int (iI n), .ref fo, .ref la, .int (iI 0), .int (iI 0), .int (iI 0), .int (iI go), .int (iI sl)]), (ma, aM E 6 mq), (fo, oo 2 [.ref f1, .ref f2, .ref f3, .int (iI 0)]), (la, aI E 8 (bf ((8 : Nat) : Int) 0 ld)), (ad 0, oo 3 (fMa 0 .null (sd 0) c0)), (ad 1, oo 3 (fMa 1 (.ref (ad 0)) (sd 1) c0)), (ad 2, oo 3 (fMa 2 (.ref (ad 1)) (sd 2) c0)), (ad 3, oo 3 (fMa 3 (.ref (ad 2)) (sd 3) c0)), (ad 4, oo 3 (fMa 4 (.ref (ad 3)) (sd 4) c0)), (ad 5, oo 3 (fMa 5 (.ref (ad 4)) (sd 5) c0)), (sd 0, aI E 4 (cpI 4 s0 (S 0))), (sd 1, aI E 4 (cpI 4 s0 (S 1))), (sd 2, aI E 4 (cpI 4 s0 (S 2))), (sd 3, aI E 4 (cpI 4 s0 (S 3))), (sd 4, aI E 4 (cpI 4 s0 (S 4))), (sd 5, aI E 4 (cpI 4 s0 (S 5)))]) 0 6 (fun _ h => List.mem_cons_of_mem _ (List.mem_append_left _ (List.mem_append_left _ (List.mem_append_right _ h)))) tyX1 tyX1_ok nmX1 (List.mem_of_getElem? (i := 7) rfl) rfl rfl (by decide) rfl (tyX1_ok 6 (by decide)) rfl rfl (by first | decide | exact Nat.le_of_ble_eq_true rfl) dX1_renew_61 rfl rfl ?_
  refine g_aload_n 2 dX1_renew_64 rfl rfl ?_
  refine g_iconst dX1_renew_65 ?_
  refine g_put (C := RX1) (T := TX1) (N := 9) (ws1 := [(v, oo 1 [.ref ma, .int (iI n), .ref fo, .ref la, .int (iI 0), .int (iI 0), .int (iI 0), .int (iI 0), .int (iI sl)]), (ma, aM E 6 mq), (fo, oo 2 [.ref f1, .ref f2, .ref f3, .int (iI 0)]), (la, aI E 8 (bf ((8 : Nat) : Int) 0 ld)), (ad 0, oo 3 (fMa 0 .null (sd 0) c0)), (ad 1, oo 3 (fMa 1 (.ref (ad 0)) (sd 1) c0)), (ad 2, oo 3 (fMa 2 (.ref (ad 1)) (sd 2) c0)), (ad 3, oo 3 (fMa 3 (.ref (ad 2)) (sd 3) c0)), (ad 4, oo 3 (fMa 4 (.ref (ad 3)) (sd 4) c0)), (ad 5, oo 3 (fMa 5 (.ref (ad 4)) (sd 5) c0)), (sd 0, aI E 4 (cpI 4 s0 (S 0))), (sd 1, aI E 4 (cpI 4 s0 (S 1))), (sd 2, aI E 4 (cpI 4 s0 (S 2))), (sd 3, aI E 4 (cpI 4 s0 (S 3))), (sd 4, aI E 4 (cpI 4 s0 (S 4))), (sd 5, aI E 4 (cpI 4 s0 (S 5)))]) 0 7 (fun _ h => List.mem_cons_of_mem _ (List.mem_append_left _ (List.mem_append_left _ (List.mem_append_right _ h)))) tyX1 tyX1_ok nmX1 (List.mem_of_getElem? (i := 8) rfl) rfl rfl (by decide) rfl (tyX1_ok 7 (by decide)) rfl rfl (by first | decide | exact Nat.le_of_ble_eq_true rfl) dX1_renew_66 rfl rfl ?_
  refine g_aload_n 2 dX1_renew_69 rfl rfl ?_
  refine g_iconst dX1_renew_70 ?_
  refine g_put (C := RX1) (T := TX1) (N := 9) (ws1 := [(v, oo 1 [.ref ma, .int (iI n), .ref fo, .ref la, .int (iI 0), .int (iI 0), .int (iI 0), .int (iI 0), .int (iI 0)]), (ma, aM E 6 mq), (fo, oo 2 [.ref f1, .ref f2, .ref f3, .int (iI 0)]), (la, aI E 8 (bf ((8 : Nat) : Int) 0 ld)), (ad 0, oo 3 (fMa 0 .null (sd 0) c0)), (ad 1, oo 3 (fMa 1 (.ref (ad 0)) (sd 1) c0)), (ad 2, oo 3 (fMa 2 (.ref (ad 1)) (sd 2) c0)), (ad 3, oo 3 (fMa 3 (.ref (ad 2)) (sd 3) c0)), (ad 4, oo 3 (fMa 4 (.ref (ad 3)) (sd 4) c0)), (ad 5, oo 3 (fMa 5 (.ref (ad 4)) (sd 5) c0)), (sd 0, aI E 4 (cpI 4 s0 (S 0))), (sd 1, aI E 4 (cpI 4 s0 (S 1))), (sd 2, aI E 4 (cpI 4 s0 (S 2))), (sd 3, aI E 4 (cpI 4 s0 (S 3))), (sd 4, aI E 4 (cpI 4 s0 (S 4))), (sd 5, aI E 4 (cpI 4 s0 (S 5)))]) 0 8 (fun _ h => List.mem_cons_of_mem _ (List.mem_append_left _ (List.mem_append_left _ (List.mem_append_right _ h)))) tyX1 tyX1_ok nmX1 (List.mem_of_getElem? (i := 9) rfl) rfl rfl (by decide) rfl (tyX1_ok 8 (by decide)) rfl rfl (by first | decide | exact Nat.le_of_ble_eq_true rfl) dX1_renew_71 rfl rfl ?_
  exact g_vret hRet dX1_renew_74 rfl

set_option maxHeartbeats 4000000 in
set_option maxRecDepth 100000 in
theorem c_X6_line (E : Ev) (x0 : Nat) (h0 : Nat) (a3 : Nat) (a4 : Nat) (a5 : Nat) (lo : Int) (v : Nat) (ma : Nat) (fo : Nat) (la : Nat) (M : Int) (ti : Int) (so : Int) (ta : Int) (go : Int) (sl : Int) (mq : Int → Option Nat) (ad : Int → Nat) (sd : Int → Nat) (g : Int → Int → Int) (ld : Int → Int) (S : Int → Int → Int) (f1 : Nat) (f2 : Nat) (f3 : Nat) (nf : Int) (n : Int) (t5 : Nat) (hmq : ∀ k, 0 ≤ k → k < 6 → mq k = some (ad k)) (h_n : -2147483648 ≤ n ∧ n ≤ 2147483647) : MI yX6_line wsX6_line ({ frames := 3, cells := 0, slots := 0, locals := 123 } : Room) E [(t5, "CaseLine$Machine", "AT_FIRST", 4, s0)] 0 0 [.ref x0, .int (iI n)] [(x0, oo 6 [.ref v, .ref h0, .ref a3, .ref a4, .ref a5, .int (iI lo)]), (v, oo 1 [.ref ma, .int (iI M), .ref fo, .ref la, .int (iI ti), .int (iI so), .int (iI ta), .int (iI go), .int (iI sl)]), (ma, aM E 6 mq), (fo, oo 2 [.ref f1, .ref f2, .ref f3, .int (iI nf)]), (la, aI E 8 ld), (ad 0, oo 3 (fMa 0 .null (sd 0) (g 0))), (ad 1, oo 3 (fMa 1 (.ref (ad 0)) (sd 1) (g 1))), (ad 2, oo 3 (fMa 2 (.ref (ad 1)) (sd 2) (g 2))), (ad 3, oo 3 (fMa 3 (.ref (ad 2)) (sd 3) (g 3))), (ad 4, oo 3 (fMa 4 (.ref (ad 3)) (sd 4) (g 4))), (ad 5, oo 3 (fMa 5 (.ref (ad 4)) (sd 5) (g 5))), (sd 0, aI E 4 (S 0)), (sd 1, aI E 4 (S 1)), (sd 2, aI E 4 (S 2)), (sd 3, aI E 4 (S 3)), (sd 4, aI E 4 (S 4)), (sd 5, aI E 4 (S 5))] (fun r u => ∃ (x : Int), ∃ (M' : Int), ∃ (ti' : Int), ∃ (so' : Int), ∃ (ta' : Int), ∃ (go' : Int), ∃ (sl' : Int), ∃ (nf' : Int), ∃ (g' : Int → Int → Int), ∃ (S' : Int → Int → Int), ∃ (ld' : Int → Int), sp_line gL M ti so ta go sl nf g S ld n x M' ti' so' ta' go' sl' nf' g' S' ld' ∧ r = iI x ∧ u = [(x0, oo 6 [.ref v, .ref h0, .ref a3, .ref a4, .ref a5, .int (iI lo)]), (v, oo 1 [.ref ma, .int (iI M'), .ref fo, .ref la, .int (iI ti'), .int (iI so'), .int (iI ta'), .int (iI go'), .int (iI sl')]), (ma, aM E 6 mq), (fo, oo 2 [.ref f1, .ref f2, .ref f3, .int (iI nf')]), (la, aI E 8 ld'), (ad 0, oo 3 (fMa 0 .null (sd 0) (g' 0))), (ad 1, oo 3 (fMa 1 (.ref (ad 0)) (sd 1) (g' 1))), (ad 2, oo 3 (fMa 2 (.ref (ad 1)) (sd 2) (g' 2))), (ad 3, oo 3 (fMa 3 (.ref (ad 2)) (sd 3) (g' 3))), (ad 4, oo 3 (fMa 4 (.ref (ad 3)) (sd 4) (g' 4))), (ad 5, oo 3 (fMa 5 (.ref (ad 4)) (sd 5) (g' 5))), (sd 0, aI E 4 (S' 0)), (sd 1, aI E 4 (S' 1)), (sd 2, aI E 4 (S' 2)), (sd 3, aI E 4 (S' 3)), (sd 4, aI E 4 (S' 4)), (sd 5, aI E 4 (S' 5))]) := by
  refine MI.of (cc := cX6_line) (maxL := 2) (own := RX6) (by decide) rfl rfl rfl (Nat.le_of_ble_eq_true rfl) [(0, .ref x0), (1, .int (iI n))] rfl ?_
  intro X hin2 hRet
  refine g_iload_n 1 dX6_line_0 rfl rfl ?_
  refine g_iconst dX6_line_1 ?_
  refine g_bipush dX6_line_2 rfl ?_
  refine g_callS_i (n := 3) (As := [.int (iI n), .int (iI 2), .int (iI 6)]) (wr := [(x0, oo 6 [.ref v, .ref h0, .ref a3, .ref a4, .ref a5, .int (iI lo)]), (v, oo 1 [.ref ma, .int (iI M), .ref fo, .ref la, .int (iI ti), .int (iI so), .int (iI ta), .int (iI go), .int (iI sl)]), (ma, aM E 6 mq), (fo, oo 2 [.ref f1, .ref f2, .ref f3, .int (iI nf)]), (la, aI E 8 ld), (ad 0, oo 3 (fMa 0 .null (sd 0) (g 0))), (ad 1, oo 3 (fMa 1 (.ref (ad 0)) (sd 1) (g 1))), (ad 2, oo 3 (fMa 2 (.ref (ad 1)) (sd 2) (g 2))), (ad 3, oo 3 (fMa 3 (.ref (ad 2)) (sd 3) (g 3))), (ad 4, oo 3 (fMa 4 (.ref (ad 3)) (sd 4) (g 4))), (ad 5, oo 3 (fMa 5 (.ref (ad 4)) (sd 5) (g 5))), (sd 0, aI E 4 (S 0)), (sd 1, aI E 4 (S 1)), (sd 2, aI E 4 (S 2)), (sd 3, aI E 4 (S 3)), (sd 4, aI E 4 (S 4)), (sd 5, aI E 4 (S 5))]) [] (c_X6_within E n 2 6 (by omega) (by omega) (by omega)) [] [0, 1, 2, 3, 4, 5, 6, 7, 8, 9, 10, 11, 12, 13, 14, 15, 16] gX6_line_X6_within rfl ⟨rfl, by decide +kernel⟩ ⟨by decide, by decide⟩ rfl rfl rfl rfl rfl (by decide) rfl (by decide) (by decide) (fun _ h => absurd h List.not_mem_nil) dX6_line_4 rfl (Nat.le_of_ble_eq_true rfl) ⟨by decide, by decide⟩ (fun r u p_1 => ?_)
  obtain ⟨rfl, rfl⟩ := p_1
  refine g_perm (ws1 := [(x0, oo 6 [.ref v, .ref h0, .ref a3, .ref a4, .ref a5, .int (iI lo)]), (v, oo 1 [.ref ma, .int (iI M), .ref fo, .ref la, .int (iI ti), .int (iI so), .int (iI ta), .int (iI go), .int (iI sl)]), (ma, aM E 6 mq), (fo, oo 2 [.ref f1, .ref f2, .ref f3, .int (iI nf)]), (la, aI E 8 ld), (ad 0, oo 3 (fMa 0 .null (sd 0) (g 0))), (ad 1, oo 3 (fMa 1 (.ref (ad 0)) (sd 1) (g 1))), (ad 2, oo 3 (fMa 2 (.ref (ad 1)) (sd 2) (g 2))), (ad 3, oo 3 (fMa 3 (.ref (ad 2)) (sd 3) (g 3))), (ad 4, oo 3 (fMa 4 (.ref (ad 3)) (sd 4) (g 4))), (ad 5, oo 3 (fMa 5 (.ref (ad 4)) (sd 5) (g 5))), (sd 0, aI E 4 (S 0)), (sd 1, aI E 4 (S 1)), (sd 2, aI E 4 (S 2)), (sd 3, aI E 4 (S 3)), (sd 4, aI E 4 (S 4)), (sd 5, aI E 4 (S 5))]) [0, 1, 2, 3, 4, 5, 6, 7, 8, 9, 10, 11, 12, 13, 14, 15, 16] rfl (by decide) rfl ?_
  refine g_if_ne_b (tgt := 12) dX6_line_7 rfl (fun c_2 => ?_) (fun c_2 => ?_)
  · refine g_aload_n 0 dX6_line_12 rfl rfl ?_
    refine g_get (C := RX6) (T := TX6) (N := 6) 0 0 (fun _ h => List.mem_cons_of_mem _ (List.mem_append_left _ (List.mem_append_left _ (List.mem_append_left _ (List.mem_append_right _ h))))) (List.mem_of_getElem? (i := 1) rfl) rfl rfl (by decide) rfl rfl dX6_line_13 ?_
    refine g_iload_n 1 dX6_line_16 rfl rfl ?_
    refine g_callV_v (n := 1) (As := [.int (iI n)]) (wr := [(x0, oo 6 [.ref v, .ref h0, .ref a3, .ref a4, .ref a5, .int (iI lo)])]) (C := RX1) [] (c_X1_renew E v ma fo la M ti so ta go sl mq ad sd g ld S f1 f2 f3 nf n t5 (by exact hmq) (by omega)) [1, 2, 3, 4, 5, 6, 7, 8, 9, 10, 11, 12, 13, 14, 15, 16] [0] 0 rfl rfl gX6_line_X1_renew rfl ⟨rfl, by decide +kernel⟩ ⟨by decide, by decide⟩ rfl rfl rfl rfl rfl (by decide) rfl (by decide) (by decide) (fun _ h => h) dX6_line_17 rfl (Nat.le_of_ble_eq_true rfl) ⟨by decide, by decide⟩ (fun u p_3 => ?_)
    subst p_3
    refine g_iload_n 1 dX6_line_20 rfl rfl ?_
    exact g_iret hRet dX6_line_21 rfl ⟨n, n, 0, 0, 0, 0, 0, 0, (gL g), (sL S), (bf 8 0 ld), (by unfold sp_line; rw [if_neg (by omega)]; exact ⟨rfl, rfl, rfl, rfl, rfl, rfl, rfl, rfl, rfl, rfl, rfl⟩), rfl, rfl⟩
  · refine g_iconst dX6_line_10 ?_
    exact g_iret hRet dX6_line_11 rfl ⟨(-1), M, ti, so, ta, go, sl, nf, g, S, ld, (by unfold sp_line; rw [if_pos (by omega)]; exact ⟨rfl, rfl, rfl, rfl, rfl, rfl, rfl, rfl, rfl, rfl, rfl⟩), rfl, rfl⟩

set_option maxHeartbeats 4000000 in
set_option maxRecDepth 100000 in
theorem c_X5_putChange (E : Ev) (a4 : Nat) (u1 : Nat) (u2 : Nat) (u3 : Nat) (wn : Int) (cg : Int) (ch : Int → Int) (a : Int) (b : Int) (w : Int) (ha : 0 ≤ a ∧ a ≤ 5) (hb : 0 ≤ b ∧ b ≤ 5) : MI yX5_putChange wsX5_putChange ({ frames := 0, cells := 0, slots := 0, locals := 0 } : Room) E [] 0 0 [.ref a4, .int (iI a), .int (iI b), .int (iI w)] [(a4, oo 5 [.ref u1, .ref u2, .ref u3, .int (iI wn), .int (iI cg)]), (u1, aI E 36 ch)] (fun r u => r = iI (ch (a * 6 + b)) ∧ u = [(a4, oo 5 [.ref u1, .ref u2, .ref u3, .int (iI wn), .int (iI cg)]), (u1, aI E 36 (up ch (a * 6 + b) w))]) := by
  refine MI.of (cc := cX5_putChange) (maxL := 5) (own := RX5) (by decide) rfl rfl rfl (Nat.le_of_ble_eq_true rfl) [(0, .ref a4), (1, .int (iI a)), (2, .int (iI b)), (3, .int (iI w))] rfl ?_
  intro X hin2 hRet
  refine g_aload_n 0 dX5_putChange_0 rfl rfl ?_
  refine g_get (C := RX5) (T := TX5) (N := 5) 0 0 (fun _ h => List.mem_cons_of_mem _ (List.mem_append_right _ h)) (List.mem_of_getElem? (i := 1) rfl) rfl rfl (by decide) rfl rfl dX5_putChange_1 ?_
  refine g_iload_n 1 dX5_putChange_4 rfl rfl ?_
  refine g_bipush dX5_putChange_5 rfl ?_
  refine g_imul dX5_putChange_7 ?_
  refine g_iload_n 2 dX5_putChange_8 rfl rfl ?_
  refine g_iadd dX5_putChange_9 ?_
  refine g_iald 1 dX5_putChange_10 rfl (by decide) (by omega) (by omega) ?_
  refine g_istore (lv1 := [(4, .int (iI (ch ((a * 6) + b)))), (0, .ref a4), (1, .int (iI a)), (2, .int (iI b)), (3, .int (iI w))]) dX5_putChange_11 (by decide) rfl ?_
  refine g_aload_n 1 dX5_putChange_13 rfl rfl ?_
  refine g_get (C := RX5) (T := TX5) (N := 5) 0 0 (fun _ h => List.mem_cons_of_mem _ (List.mem_append_right _ h)) (List.mem_of_getElem? (i := 1) rfl) rfl rfl (by decide) rfl rfl dX5_putChange_14 ?_
  refine g_iload_n 2 dX5_putChange_17 rfl rfl ?_
  refine g_bipush dX5_putChange_18 rfl ?_
  refine g_imul dX5_putChange_20 ?_
  refine g_iload_n 3 dX5_putChange_21 rfl rfl ?_
  refine g_iadd dX5_putChange_22 ?_
  refine g_iload_n 4 dX5_putChange_23 rfl rfl ?_
  refine g_iast (ws1 := [(a4, oo 5 [.ref u1, .ref u2, .ref u3, .int (iI wn), .int (iI cg)]), (u1, aI E 36 (up ch ((a * 6) + b) w))]) 1 dX5_putChange_24 rfl rfl (by decide) (by omega) (by omega) ?_
  refine g_iload 0 dX5_putChange_25 rfl ?_
  exact g_iret hRet dX5_putChange_27 rfl ⟨(congrArg iI (by omega)), rfl⟩

set_option maxHeartbeats 4000000 in
set_option maxRecDepth 100000 in
theorem c_X5_putStain (E : Ev) (a4 : Nat) (u1 : Nat) (u2 : Nat) (u3 : Nat) (wn : Int) (cg : Int) (sn : Int → Int) (k : Int) (w : Int) (hk : 0 ≤ k ∧ k ≤ 5) : MI yX5_putStain wsX5_putStain ({ frames := 0, cells := 0, slots := 0, locals := 0 } : Room) E [] 0 0 [.ref a4, .int (iI k), .int (iI w)] [(a4, oo 5 [.ref u1, .ref u2, .ref u3, .int (iI wn), .int (iI cg)]), (u2, aI E 6 sn)] (fun r u => r = iI (sn k) ∧ u = [(a4, oo 5 [.ref u1, .ref u2, .ref u3, .int (iI wn), .int (iI cg)]), (u2, aI E 6 (up sn k w))]) := by
  refine MI.of (cc := cX5_putStain) (maxL := 4) (own := RX5) (by decide) rfl rfl rfl (Nat.le_of_ble_eq_true rfl) [(0, .ref a4), (1, .int (iI k)), (2, .int (iI w))] rfl ?_
  intro X hin2 hRet
  refine g_aload_n 0 dX5_putStain_0 rfl rfl ?_
  refine g_get (C := RX5) (T := TX5) (N := 5) 0 1 (fun _ h => List.mem_cons_of_mem _ (List.mem_append_right _ h)) (List.mem_of_getElem? (i := 1) rfl) rfl rfl (by decide) rfl rfl dX5_putStain_1 ?_
  refine g_iload_n 1 dX5_putStain_4 rfl rfl ?_
  refine g_iald 1 dX5_putStain_5 rfl (by decide) (by omega) (by omega) ?_
  refine g_istore_n (lv1 := [(3, .int (iI (sn k))), (0, .ref a4), (1, .int (iI k)), (2, .int (iI w))]) dX5_putStain_6 rfl (by decide) rfl ?_
  refine g_aload_n 1 dX5_putStain_7 rfl rfl ?_
  refine g_get (C := RX5) (T := TX5) (N := 5) 0 1 (fun _ h => List.mem_cons_of_mem _ (List.mem_append_right _ h)) (List.mem_of_getElem? (i := 1) rfl) rfl rfl (by decide) rfl rfl dX5_putStain_8 ?_
  refine g_iload_n 2 dX5_putStain_11 rfl rfl ?_
  refine g_iload_n 3 dX5_putStain_12 rfl rfl ?_
  refine g_iast (ws1 := [(a4, oo 5 [.ref u1, .ref u2, .ref u3, .int (iI wn), .int (iI cg)]), (u2, aI E 6 (up sn k w))]) 1 dX5_putStain_13 rfl rfl (by decide) (by omega) (by omega) ?_
  refine g_iload_n 0 dX5_putStain_14 rfl rfl ?_
  exact g_iret hRet dX5_putStain_15 rfl ⟨rfl, rfl⟩

set_option maxHeartbeats 4000000 in
set_option maxRecDepth 100000 in
theorem c_X6_change (E : Ev) (x0 : Nat) (h0 : Nat) (a3 : Nat) (a4 : Nat) (a5 : Nat) (lo : Int) (v : Nat) (u1 : Nat) (u2 : Nat) (u3 : Nat) (wn : Int) (cg : Int) (ch : Int → Int) (a : Int) (b : Int) (w : Int) (h_a : -2147483648 ≤ a ∧ a ≤ 2147483647) (h_b : -2147483648 ≤ b ∧ b ≤ 2147483647) (h_w : -2147483648 ≤ w ∧ w ≤ 2147483647) : MI yX6_change wsX6_change ({ frames := 1, cells := 0, slots := 0, locals := 24 } : Room) E [] 0 0 [.ref x0, .int (iI a), .int (iI b), .int (iI w)] [(x0, oo 6 [.ref v, .ref h0, .ref a3, .ref a4, .ref a5, .int (iI lo)]), (a4, oo 5 [.ref u1, .ref u2, .ref u3, .int (iI wn), .int (iI cg)]), (u1, aI E 36 ch)] (fun r u => ∃ (x : Int), ∃ (ch' : Int → Int), sp_change ch a b w x ch' ∧ r = iI x ∧ u = [(x0, oo 6 [.ref v, .ref h0, .ref a3, .ref a4, .ref a5, .int (iI lo)]), (a4, oo 5 [.ref u1, .ref u2, .ref u3, .int (iI wn), .int (iI cg)]), (u1, aI E 36 ch')]) := by
  refine MI.of (cc := cX6_change) (maxL := 4) (own := RX6) (by decide) rfl rfl rfl (Nat.le_of_ble_eq_true rfl) [(0, .ref x0), (1, .int (iI a)), (2, .int (iI b)), (3, .int (iI w))] rfl ?_
  intro X hin2 hRet
  refine g_iload_n 1 dX6_change_0 rfl rfl ?_
  refine g_callS_i (n := 1) (As := [.int (iI a)]) (wr := [(x0, oo 6 [.ref v, .ref h0, .ref a3, .ref a4, .ref a5, .int (iI lo)]), (a4, oo 5 [.ref u1, .ref u2, .ref u3, .int (iI wn), .int (iI cg)]), (u1, aI E 36 ch)]) [] (c_X6_isKind E a (by omega)) [] [0, 1, 2] gX6_change_X6_isKind rfl ⟨rfl, by decide +kernel⟩ ⟨by decide, by decide⟩ rfl rfl rfl rfl rfl (by decide) rfl (by decide) (by decide) (fun _ h => absurd h List.not_mem_nil) dX6_change_1 rfl (Nat.le_of_ble_eq_true rfl) ⟨by decide, by decide⟩ (fun r u p_1 => ?_)
  obtain ⟨rfl, rfl⟩ := p_1
  refine g_perm (ws1 := [(x0, oo 6 [.ref v, .ref h0, .ref a3, .ref a4, .ref a5, .int (iI lo)]), (a4, oo 5 [.ref u1, .ref u2, .ref u3, .int (iI wn), .int (iI cg)]), (u1, aI E 36 ch)]) [0, 1, 2] rfl (by decide) rfl ?_
  refine g_if_eq_b (tgt := 30) dX6_change_4 rfl (fun c_2 => ?_) (fun c_2 => ?_)
  · refine g_iload_n 2 dX6_change_7 rfl rfl ?_
    refine g_callS_i (n := 1) (As := [.int (iI b)]) (wr := [(x0, oo 6 [.ref v, .ref h0, .ref a3, .ref a4, .ref a5, .int (iI lo)]), (a4, oo 5 [.ref u1, .ref u2, .ref u3, .int (iI wn), .int (iI cg)]), (u1, aI E 36 ch)]) [] (c_X6_isKind E b (by omega)) [] [0, 1, 2] gX6_change_X6_isKind rfl ⟨rfl, by decide +kernel⟩ ⟨by decide, by decide⟩ rfl rfl rfl rfl rfl (by decide) rfl (by decide) (by decide) (fun _ h => absurd h List.not_mem_nil) dX6_change_8 rfl (Nat.le_of_ble_eq_true rfl) ⟨by decide, by decide⟩ (fun r u p_3 => ?_)
    obtain ⟨rfl, rfl⟩ := p_3
    refine g_perm (ws1 := [(x0, oo 6 [.ref v, .ref h0, .ref a3, .ref a4, .ref a5, .int (iI lo)]), (a4, oo 5 [.ref u1, .ref u2, .ref u3, .int (iI wn), .int (iI cg)]), (u1, aI E 36 ch)]) [0, 1, 2] rfl (by decide) rfl ?_
    refine g_if_eq_b (tgt := 30) dX6_change_11 rfl (fun c_4 => ?_) (fun c_4 => ?_)
    · refine g_iload_n 1 dX6_change_14 rfl rfl ?_
      refine g_iload_n 2 dX6_change_15 rfl rfl ?_
      refine g_icmp_eq (tgt := 30) (by unfold R32; omega) (by unfold R32; omega) dX6_change_16 rfl (fun c_5 => ?_) (fun c_5 => ?_)
      · refine g_iconst dX6_change_30 ?_
        exact g_iret hRet dX6_change_31 rfl ⟨(-1), ch, (by unfold sp_change; rw [if_pos (by omega)]; exact ⟨rfl, rfl⟩), rfl, rfl⟩
      · refine g_iload_n 3 dX6_change_19 rfl rfl ?_
        refine g_iconst dX6_change_20 ?_
        refine g_sipush dX6_change_21 rfl ?_
        refine g_callS_i (n := 3) (As := [.int (iI w), .int (iI 0), .int (iI 500)]) (wr := [(x0, oo 6 [.ref v, .ref h0, .ref a3, .ref a4, .ref a5, .int (iI lo)]), (a4, oo 5 [.ref u1, .ref u2, .ref u3, .int (iI wn), .int (iI cg)]), (u1, aI E 36 ch)]) [] (c_X6_within E w 0 500 (by omega) (by omega) (by omega)) [] [0, 1, 2] gX6_change_X6_within rfl ⟨rfl, by decide +kernel⟩ ⟨by decide, by decide⟩ rfl rfl rfl rfl rfl (by decide) rfl (by decide) (by decide) (fun _ h => absurd h List.not_mem_nil) dX6_change_24 rfl (Nat.le_of_ble_eq_true rfl) ⟨by decide, by decide⟩ (fun r u p_6 => ?_)
        obtain ⟨rfl, rfl⟩ := p_6
        refine g_perm (ws1 := [(x0, oo 6 [.ref v, .ref h0, .ref a3, .ref a4, .ref a5, .int (iI lo)]), (a4, oo 5 [.ref u1, .ref u2, .ref u3, .int (iI wn), .int (iI cg)]), (u1, aI E 36 ch)]) [0, 1, 2] rfl (by decide) rfl ?_
        refine g_if_ne_b (tgt := 32) dX6_change_27 rfl (fun c_7 => ?_) (fun c_7 => ?_)
        · refine g_aload_n 0 dX6_change_32 rfl rfl ?_
          refine g_get (C := RX6) (T := TX6) (N := 6) 0 3 (fun _ h => List.mem_cons_of_mem _ (List.mem_append_left _ (List.mem_append_right _ h))) (List.mem_of_getElem? (i := 1) rfl) rfl rfl (by decide) rfl rfl dX6_change_33 ?_
          refine g_iload_n 1 dX6_change_36 rfl rfl ?_
          refine g_iload_n 2 dX6_change_37 rfl rfl ?_
          refine g_iload_n 3 dX6_change_38 rfl rfl ?_
          refine g_callV_i (n := 3) (As := [.int (iI a), .int (iI b), .int (iI w)]) (wr := [(x0, oo 6 [.ref v, .ref h0, .ref a3, .ref a4, .ref a5, .int (iI lo)])]) (C := RX5) [] (c_X5_putChange E a4 u1 u2 u3 wn cg ch a b w (by omega) (by omega)) [1, 2] [0] 0 rfl rfl gX6_change_X5_putChange rfl ⟨rfl, by decide +kernel⟩ ⟨by decide, by decide⟩ rfl rfl rfl rfl rfl (by decide) rfl (by decide) (by decide) (fun _ h => absurd h List.not_mem_nil) dX6_change_39 rfl (Nat.le_of_ble_eq_true rfl) ⟨by decide, by decide⟩ (fun r u p_8 => ?_)
          obtain ⟨rfl, rfl⟩ := p_8
          exact g_iret hRet dX6_change_42 rfl ⟨(ch (a * 6 + b)), (up ch (a * 6 + b) w), (by unfold sp_change; rw [if_neg (by omega), Int.mul_comm 6 a]; exact ⟨rfl, rfl⟩), rfl, rfl⟩
        · refine g_iconst dX6_change_30 ?_
          exact g_iret hRet dX6_change_31 rfl ⟨(-1), ch, (by unfold sp_change; rw [if_pos (by omega)]; exact ⟨rfl, rfl⟩), rfl, rfl⟩
    · refine g_iconst dX6_change_30 ?_
      exact g_iret hRet dX6_change_31 rfl ⟨(-1), ch, (by unfold sp_change; rw [if_pos (by omega)]; exact ⟨rfl, rfl⟩), rfl, rfl⟩
  · refine g_iconst dX6_change_30 ?_
    exact g_iret hRet dX6_change_31 rfl ⟨(-1), ch, (by unfold sp_change; rw [if_pos (by omega)]; exact ⟨rfl, rfl⟩), rfl, rfl⟩

set_option maxHeartbeats 4000000 in
set_option maxRecDepth 100000 in
theorem c_X6_stain (E : Ev) (x0 : Nat) (h0 : Nat) (a3 : Nat) (a4 : Nat) (a5 : Nat) (lo : Int) (v : Nat) (u1 : Nat) (u2 : Nat) (u3 : Nat) (wn : Int) (cg : Int) (sn : Int → Int) (k : Int) (w : Int) (h_k : -2147483648 ≤ k ∧ k ≤ 2147483647) (h_w : -2147483648 ≤ w ∧ w ≤ 2147483647) : MI yX6_stain wsX6_stain ({ frames := 1, cells := 0, slots := 0, locals := 23 } : Room) E [] 0 0 [.ref x0, .int (iI k), .int (iI w)] [(x0, oo 6 [.ref v, .ref h0, .ref a3, .ref a4, .ref a5, .int (iI lo)]), (a4, oo 5 [.ref u1, .ref u2, .ref u3, .int (iI wn), .int (iI cg)]), (u2, aI E 6 sn)] (fun r u => ∃ (x : Int), ∃ (sn' : Int → Int), sp_stain sn k w x sn' ∧ r = iI x ∧ u = [(x0, oo 6 [.ref v, .ref h0, .ref a3, .ref a4, .ref a5, .int (iI lo)]), (a4, oo 5 [.ref u1, .ref u2, .ref u3, .int (iI wn), .int (iI cg)]), (u2, aI E 6 sn')]) := by
  refine MI.of (cc := cX6_stain) (maxL := 3) (own := RX6) (by decide) rfl rfl rfl (Nat.le_of_ble_eq_true rfl) [(0, .ref x0), (1, .int (iI k)), (2, .int (iI w))] rfl ?_
  intro X hin2 hRet
  refine g_iload_n 1 dX6_stain_0 rfl rfl ?_
  refine g_callS_i (n := 1) (As := [.int (iI k)]) (wr := [(x0, oo 6 [.ref v, .ref h0, .ref a3, .ref a4, .ref a5, .int (iI lo)]), (a4, oo 5 [.ref u1, .ref u2, .ref u3, .int (iI wn), .int (iI cg)]), (u2, aI E 6 sn)]) [] (c_X6_isKind E k (by omega)) [] [0, 1, 2] gX6_stain_X6_isKind rfl ⟨rfl, by decide +kernel⟩ ⟨by decide, by decide⟩ rfl rfl rfl rfl rfl (by decide) rfl (by decide) (by decide) (fun _ h => absurd h List.not_mem_nil) dX6_stain_1 rfl (Nat.le_of_ble_eq_true rfl) ⟨by decide, by decide⟩ (fun r u p_1 => ?_)
  obtain ⟨rfl, rfl⟩ := p_1
  refine g_perm (ws1 := [(x0, oo 6 [.ref v, .ref h0, .ref a3, .ref a4, .ref a5, .int (iI lo)]), (a4, oo 5 [.ref u1, .ref u2, .ref u3, .int (iI wn), .int (iI cg)]), (u2, aI E 6 sn)]) [0, 1, 2] rfl (by decide) rfl ?_
  refine g_if_eq_b (tgt := 16) dX6_stain_4 rfl (fun c_2 => ?_) (fun c_2 => ?_)
  · refine g_iload_n 2 dX6_stain_7 rfl rfl ?_
    refine g_iconst dX6_stain_8 ?_
    refine g_iconst dX6_stain_9 ?_
    refine g_callS_i (n := 3) (As := [.int (iI w), .int (iI 0), .int (iI 3)]) (wr := [(x0, oo 6 [.ref v, .ref h0, .ref a3, .ref a4, .ref a5, .int (iI lo)]), (a4, oo 5 [.ref u1, .ref u2, .ref u3, .int (iI wn), .int (iI cg)]), (u2, aI E 6 sn)]) [] (c_X6_within E w 0 3 (by omega) (by omega) (by omega)) [] [0, 1, 2] gX6_stain_X6_within rfl ⟨rfl, by decide +kernel⟩ ⟨by decide, by decide⟩ rfl rfl rfl rfl rfl (by decide) rfl (by decide) (by decide) (fun _ h => absurd h List.not_mem_nil) dX6_stain_10 rfl (Nat.le_of_ble_eq_true rfl) ⟨by decide, by decide⟩ (fun r u p_3 => ?_)
    obtain ⟨rfl, rfl⟩ := p_3
    refine g_perm (ws1 := [(x0, oo 6 [.ref v, .ref h0, .ref a3, .ref a4, .ref a5, .int (iI lo)]), (a4, oo 5 [.ref u1, .ref u2, .ref u3, .int (iI wn), .int (iI cg)]), (u2, aI E 6 sn)]) [0, 1, 2] rfl (by decide) rfl ?_
    refine g_if_ne_b (tgt := 18) dX6_stain_13 rfl (fun c_4 => ?_) (fun c_4 => ?_)
    · refine g_aload_n 0 dX6_stain_18 rfl rfl ?_
      refine g_get (C := RX6) (T := TX6) (N := 6) 0 3 (fun _ h => List.mem_cons_of_mem _ (List.mem_append_left _ (List.mem_append_right _ h))) (List.mem_of_getElem? (i := 1) rfl) rfl rfl (by decide) rfl rfl dX6_stain_19 ?_
      refine g_iload_n 1 dX6_stain_22 rfl rfl ?_
      refine g_iload_n 2 dX6_stain_23 rfl rfl ?_
      refine g_callV_i (n := 2) (As := [.int (iI k), .int (iI w)]) (wr := [(x0, oo 6 [.ref v, .ref h0, .ref a3, .ref a4, .ref a5, .int (iI lo)])]) (C := RX5) [] (c_X5_putStain E a4 u1 u2 u3 wn cg sn k w (by omega)) [1, 2] [0] 0 rfl rfl gX6_stain_X5_putStain rfl ⟨rfl, by decide +kernel⟩ ⟨by decide, by decide⟩ rfl rfl rfl rfl rfl (by decide) rfl (by decide) (by decide) (fun _ h => absurd h List.not_mem_nil) dX6_stain_24 rfl (Nat.le_of_ble_eq_true rfl) ⟨by decide, by decide⟩ (fun r u p_5 => ?_)
      obtain ⟨rfl, rfl⟩ := p_5
      exact g_iret hRet dX6_stain_27 rfl ⟨(sn k), (up sn k w), (by unfold sp_stain; rw [if_neg (by omega)]; exact ⟨rfl, rfl⟩), rfl, rfl⟩
    · refine g_iconst dX6_stain_16 ?_
      exact g_iret hRet dX6_stain_17 rfl ⟨(-1), sn, (by unfold sp_stain; rw [if_pos (by omega)]; exact ⟨rfl, rfl⟩), rfl, rfl⟩
  · refine g_iconst dX6_stain_16 ?_
    exact g_iret hRet dX6_stain_17 rfl ⟨(-1), sn, (by unfold sp_stain; rw [if_pos (by omega)]; exact ⟨rfl, rfl⟩), rfl, rfl⟩

end LINE2
