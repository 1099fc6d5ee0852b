section REF2B
def stepG (g : Int → Int → Int) (k x : Int) (c' : Int → Int) (tk : Int) : Int → Int → Int := if k = 0 then ug g k (finM x c') else ug (ug g k (finM x c')) (k - 1) (gapM (g (k - 1)) tk)
theorem sPass_i {F : Int → Bool} {M ti : Int} {S : Int → Int → Int} {k : Int} (h0 : 0 ≤ k) {g : Int → Int → Int} {so ta go : Int} {g' : Int → Int → Int} {so' ta' go' x : Int} {c' : Int → Int} {tk gd : Int}
    (h : sStep (F k) k M ti (if k = 0 then so else g (k - 1) 0) (S k) (g k) x c' tk gd) (h2 : sPass F M ti S k.toNat (stepG g k x c' tk) (if k = 0 then (if tk = 0 then so else so - 1) else so) (if k = 0 then (if tk = 0 then ta else ta + 1) else ta) (if gd = 0 then go else go + 1) g' so' ta' go') : sPass F M ti S (k + 1).toNat g so ta go g' so' ta' go' := by
  obtain ⟨n, rfl⟩ : ∃ n : Nat, k = (n : Int) := ⟨k.toNat, by omega⟩
  rw [show ((n : Int) + 1).toNat = n + 1 by omega]
  exact sPass_s n ⟨x, c', tk, gd, h, h2⟩
theorem finM_o (x : Int) (c : Int → Int) {f : Int} (h : f ≠ 9) (h2 : f ≠ 10) : finM x c f = c f := by
  unfold finM; split
  · unfold up; rw [if_neg h2, if_neg h]
  · unfold up; rw [if_neg h]
theorem finM_9 (x : Int) (c : Int → Int) : finM x c 9 = x := by
  unfold finM; split <;> rfl
theorem finM_10 (x : Int) (c : Int → Int) : finM x c 10 = (if x = 3 then c 10 + 1 else c 10) := by
  unfold finM; split <;> rfl
theorem stepG_k (g : Int → Int → Int) (k x : Int) (c' : Int → Int) (tk : Int) : stepG g k x c' tk k = finM x c' := by
  unfold stepG; split
  · show (if k = k then finM x c' else g k) = _; rw [if_pos rfl]
  · show (if k = k - 1 then gapM (g (k - 1)) tk else (if k = k then finM x c' else g k)) = _; rw [if_neg (by omega), if_pos rfl]
theorem stepG_p (g : Int → Int → Int) {k : Int} (x : Int) (c' : Int → Int) (tk : Int) (h : k ≠ 0) : stepG g k x c' tk (k - 1) = gapM (g (k - 1)) tk := by
  unfold stepG; rw [if_neg h]; show (if k - 1 = k - 1 then gapM (g (k - 1)) tk else _) = _; rw [if_pos rfl]
theorem stepG_o (g : Int → Int → Int) {k j : Int} (x : Int) (c' : Int → Int) (tk : Int) (h : j ≠ k) (h2 : j ≠ k - 1 ∨ k = 0) : stepG g k x c' tk j = g j := by
  unfold stepG; split
  · show (if j = k then finM x c' else g j) = _; rw [if_neg h]
  · show (if j = k - 1 then gapM (g (k - 1)) tk else (if j = k then finM x c' else g j)) = _; rw [if_neg (by omega), if_neg h]
theorem colN {g : Int → Int → Int} {k x tk f v : Int} {c' : Int → Int} (hf : f ≠ 0) (hv : finM x c' f = v) : (fun j => stepG g k x c' tk j f) = up (fun j => g j f) k v := by
  funext j
  unfold up
  by_cases h : j = k
  · rw [if_pos h, h, stepG_k]; exact hv
  · rw [if_neg h]
    by_cases h2 : k ≠ 0 ∧ j = k - 1
    · rw [h2.2, stepG_p g x c' tk h2.1]; unfold gapM up; rw [if_neg hf]
    · rw [stepG_o g x c' tk h (by omega)]
theorem col0 {g : Int → Int → Int} {k x tk : Int} {c' : Int → Int} : (fun j => stepG g k x c' tk j 0) = gapN g k c' tk := by
  funext j
  unfold gapN
  by_cases h : j = k
  · rw [h, stepG_k, finM_o x c' (by omega) (by omega)]
    split
    · exact (up_s (fun j => g j 0) k _).symm
    · rw [up_n (up (fun j => g j 0) k (c' 0)) _ (show k ≠ k - 1 by omega)]; exact (up_s (fun j => g j 0) k _).symm
  · by_cases h0 : k = 0
    · rw [if_pos h0, stepG_o g x c' tk h (by omega)]; exact (up_n (fun j => g j 0) _ h).symm
    · rw [if_neg h0]
      by_cases h2 : j = k - 1
      · rw [h2, stepG_p g x c' tk h0, up_s]; rfl
      · rw [stepG_o g x c' tk h (by omega), up_n (up (fun j => g j 0) k (c' 0)) _ h2, up_n (fun j => g j 0) _ h]
theorem colW {g : Int → Int → Int} {k x tk : Int} {c' : Int → Int} : (fun j => wkOf (stepG g k x c' tk j)) = up (fun j => wkOf (g j)) k (wkOf c') := by
  funext j
  unfold up
  by_cases h : j = k
  · rw [if_pos h, h, stepG_k]; unfold wkOf; rw [finM_o x c' (by omega) (by omega), finM_o x c' (by omega) (by omega), finM_o x c' (by omega) (by omega)]
  · rw [if_neg h]
    by_cases h2 : k ≠ 0 ∧ j = k - 1
    · rw [h2.2, stepG_p g x c' tk h2.1]; rfl
    · rw [stepG_o g x c' tk h (by omega)]
theorem sStep_gs {flt : Bool} {n M ti av : Int} {s c : Int → Int} {x : Int} {c' : Int → Int} {tk gd : Int} (h : sStep flt n M ti av s c x c' tk gd) (h0 : c 0 ≤ s 3) (h2 : c 2 ≠ 0 ∨ c 2 = 0) : c' 0 ≤ s 3 := by
  have e0 := give1_0 c
  have ew : work1 c 0 = give1 c 0 := work1_o c 0 (by omega) (by omega)
  unfold sStep at h
  (repeat' split at h)
  · rw [h.2.1]; exact h0
  · rw [h.2.1]; exact h0
  · rw [h.2.1]; exact h0
  · rw [h.2.1]; split at e0 <;> omega
  all_goals
    obtain ⟨-, -, hf⟩ := h
    unfold sFin at hf
    split at hf
    · rw [hf.1]; split at e0 <;> omega
    · have := (sEnd_f hf).1; split at e0 <;> omega
theorem cau_i (g : Int → Int → Int) {q : Int} (h : 0 ≤ q) : cau g (q + 1).toNat = (if g q 9 = 4 then cau g q.toNat else if g q 9 = 3 then 6 else q) := by
  obtain ⟨n, rfl⟩ : ∃ n : Nat, q = (n : Int) := ⟨q.toNat, by omega⟩
  rw [show ((n : Int) + 1).toNat = n + 1 by omega]
  rfl
theorem cau_b (g : Int → Int → Int) : ∀ n : Nat, n ≤ 6 → 0 ≤ cau g n ∧ cau g n ≤ 7
  | 0, _ => ⟨show (0:Int) ≤ 7 by decide, show (7:Int) ≤ 7 by decide⟩
  | n + 1, h => by
    show 0 ≤ (if g (n : Int) 9 = 4 then cau g n else if g (n : Int) 9 = 3 then 6 else (n : Int)) ∧ (if g (n : Int) 9 = 4 then cau g n else if g (n : Int) 9 = 3 then 6 else (n : Int)) ≤ 7
    have := cau_b g n (by omega)
    (repeat' split) <;> omega

def cdI (go cn lo : Int) (bo lt wg : Int → Int) (k M go1 cn1 : Int) (bo1 lt1 wg1 : Int → Int) : Prop :=
  (go1 = go ∧ cn1 = cn ∧ bo1 = bo ∧ lt1 = lt ∧ wg1 = wg) ∨ (go1 = go + 1 ∧ k < M - 1 ∧ cn1 = (if cn < 200 then cn + 1 else cn) ∧ bo1 = (if cn < 200 then up bo cn (-4) else bo) ∧ lt1 = (if cn < 200 then up lt cn lo else lt) ∧ wg1 = (if cn < 200 then up wg cn (-4) else wg))
theorem cdI_b {go cn lo k M go1 cn1 gd : Int} {bo lt wg bo1 lt1 wg1 : Int → Int} (h : cdI go cn lo bo lt wg k M go1 cn1 bo1 lt1 wg1) (hk : k ≤ M - 1) (hgd : gd = 0 ∨ (k = M - 1 ∧ gd = 1)) :
    cdI go cn lo bo lt wg (k + -1) M (if gd = 0 then go1 else go1 + 1) (if gd = 1 ∧ cn1 < 200 then cn1 + 1 else cn1) (if gd = 1 ∧ cn1 < 200 then up bo1 cn1 (-4) else bo1) (if gd = 1 ∧ cn1 < 200 then up lt1 cn1 lo else lt1) (if gd = 1 ∧ cn1 < 200 then up wg1 cn1 (-4) else wg1) := by
  unfold cdI at *
  rcases hgd with rfl | ⟨rfl, rfl⟩
  · simp only [if_pos, show ¬ ((0:Int) = 1 ∧ cn1 < 200) from fun q => absurd q.1 (by decide), if_false]
    rcases h with h | ⟨h1, h2, h3⟩
    · exact Or.inl h
    · exact Or.inr ⟨h1, by omega, h3⟩
  · rcases h with ⟨rfl, rfl, rfl, rfl, rfl⟩ | ⟨h1, h2, h3⟩
    · refine Or.inr ⟨by rw [if_neg (by decide)], by omega, ?_⟩
      by_cases z : cn1 < 200 <;> simp [z]
    · exfalso; omega
theorem cdI_e {go cn lo k M go1 cn1 : Int} {bo lt wg bo1 lt1 wg1 : Int → Int} (h : cdI go cn lo bo lt wg k M go1 cn1 bo1 lt1 wg1) :
    cn1 = (if ¬ go1 = go ∧ cn < 200 then cn + 1 else cn) ∧ bo1 = (if ¬ go1 = go ∧ cn < 200 then up bo cn (-4) else bo) ∧ lt1 = (if ¬ go1 = go ∧ cn < 200 then up lt cn lo else lt) ∧ wg1 = (if ¬ go1 = go ∧ cn < 200 then up wg cn (-4) else wg) := by
  unfold cdI at h
  rcases h with ⟨rfl, rfl, rfl, rfl, rfl⟩ | ⟨h1, h2, h3⟩
  · simp
  · have e : ¬ go1 = go := by omega
    simpa [e] using h3

set_option maxHeartbeats 4000000 in
set_option maxRecDepth 100000 in
theorem c_X7_passes (E : Ev) (m0 : Nat) (ra : Nat → Nat) (mm : Int) (nf : Int) (ti : Int) (so : Int) (ta : Int) (go : Int) (sl : Int) (lo : Int) (cn : Int) (lx : Int) (ly : Int) (pm : Int) (pi : Int) (g : Int → Int → Int) (S : Int → Int → Int) (fm : Int → Int) (fa : Int → Int) (fb : Int → Int) (lt : Int → Int) (bo : Int → Int) (wg : Int → Int) (ld : Int → Int) (hM : 2 ≤ mm ∧ mm ≤ 6) (hti : 0 ≤ ti ∧ ti ≤ 10000) (hso : 0 ≤ so ∧ so ≤ 100000) (hgo : 0 ≤ go ∧ go ≤ 20000) (hcn : 0 ≤ cn ∧ cn ≤ 200) (hlo : 0 ≤ lo ∧ lo ≤ 15) (hnf : 0 ≤ nf ∧ nf ≤ 8) (hfm : ∀ k, 0 ≤ fm k ∧ fm k ≤ 5) (hfa : ∀ k, 0 ≤ fa k ∧ fa k ≤ 9999) (hfb : ∀ k, 0 ≤ fb k ∧ fb k ≤ 9999) (hti2 : ti ≤ 9999) (hgo2 : go ≤ ti) (hgk : ∀ j, 0 ≤ j → j < 6 → kOk ti (g j)) (hS : ∀ j, 0 ≤ j → j < 6 → sOk (S j)) (hgs : ∀ j, 0 ≤ j → j < 6 → g j 0 ≤ S j 3) : MV yX7_passes wsX7_passes ({ frames := 3, cells := 0, slots := 0, locals := 66 } : Room) E [] 0 0 [.ref m0] [(m0, oo 7 (fMo ra mm nf ti so ta go sl lo cn lx ly pm pi)), (ra 6, aI E 6 (fun j => g j 9)), (ra 15, aI E 8 fm), (ra 16, aI E 8 fa), (ra 17, aI E 8 fb), (ra 12, aI E 6 (fun j => g j 7)), (ra 13, aI E 6 (fun j => g j 8)), (ra 11, aI E 6 (fun j => wkOf (g j))), (ra 5, aI E 6 (fun j => g j 0)), (ra 4, aI E 6 (fun j => S j 3)), (ra 1, aI E 6 (fun j => S j 0)), (ra 2, aI E 6 (fun j => S j 1)), (ra 3, aI E 6 (fun j => S j 2)), (ra 7, aI E 6 (fun j => g j 4)), (ra 8, aI E 6 (fun j => g j 5)), (ra 9, aI E 6 (fun j => g j 6)), (ra 10, aI E 6 (fun j => g j 10)), (ra 26, aI E 200 lt), (ra 27, aI E 200 bo), (ra 28, aI E 200 wg), (ra 23, aI E 8 ld)] (fun u => ∃ (g' : Int → Int → Int), ∃ (so' : Int), ∃ (ta' : Int), ∃ (go' : Int), ∃ (sl' : Int), ∃ (ld' : Int → Int), ∃ (cn' : Int), ∃ (bo' : Int → Int), ∃ (lt' : Int → Int), ∃ (wg' : Int → Int), sTick mm lo nf fm fa fb S (g, so, ta, go, sl, ld, ti, cn, bo, lt, wg) (g', so', ta', go', sl', ld', ti + 1, cn', bo', lt', wg') ∧ ((∀ j, 0 ≤ j → j < 6 → kOk (ti + 1) (g' j)) ∧ (∀ j, 0 ≤ j → j < 6 → g' j 0 ≤ S j 3) ∧ (0 ≤ so' ∧ so' ≤ 100000) ∧ (0 ≤ go' ∧ go' ≤ ti + 1) ∧ (0 ≤ cn' ∧ cn' ≤ 200)) ∧ u = [(m0, oo 7 (fMo ra mm nf (ti + 1) so' ta' go' sl' lo cn' lx ly pm pi)), (ra 6, aI E 6 (fun j => g' j 9)), (ra 15, aI E 8 fm), (ra 16, aI E 8 fa), (ra 17, aI E 8 fb), (ra 12, aI E 6 (fun j => g' j 7)), (ra 13, aI E 6 (fun j => g' j 8)), (ra 11, aI E 6 (fun j => wkOf (g' j))), (ra 5, aI E 6 (fun j => g' j 0)), (ra 4, aI E 6 (fun j => S j 3)), (ra 1, aI E 6 (fun j => S j 0)), (ra 2, aI E 6 (fun j => S j 1)), (ra 3, aI E 6 (fun j => S j 2)), (ra 7, aI E 6 (fun j => g' j 4)), (ra 8, aI E 6 (fun j => g' j 5)), (ra 9, aI E 6 (fun j => g' j 6)), (ra 10, aI E 6 (fun j => g' j 10)), (ra 26, aI E 200 lt'), (ra 27, aI E 200 bo'), (ra 28, aI E 200 wg'), (ra 23, aI E 8 ld')]) := by
  refine MV.of (cc := cX7_passes) (maxL := 2) (own := RX7) (by decide) rfl rfl rfl (Nat.le_of_ble_eq_true rfl) [(0, .ref m0)] rfl ?_
  intro X hin2 hRet
  refine g_aload_n 0 dX7_passes_0 rfl rfl ?_
  refine g_get (C := RX7) (T := TX7) (N := 43) 0 0 (fun _ h => List.mem_cons_of_mem _ (List.mem_append_right _ h)) (List.mem_of_getElem? (i := 1) rfl) rfl rfl (by decide) rfl rfl dX7_passes_1 ?_
  refine g_iconst dX7_passes_4 ?_
  refine g_isub dX7_passes_5 ?_
  refine g_istore_n (lv1 := [(1, .int (iI (mm - 1))), (0, .ref m0)]) dX7_passes_6 rfl (by decide) rfl ?_
  refine g_lv (lv1 := [(0, .ref m0), (1, .int (iI (mm - 1)))]) [1, 0] rfl ?_
  have L7 : ∀ (nn : Nat) (k : Int) (g1 : Int → Int → Int) (so1 : Int) (ta1 : Int) (go1 : Int) (cn1 : Int) (bo1 : Int → Int) (lt1 : Int → Int) (wg1 : Int → Int) (hkr : -1 ≤ k ∧ k ≤ mm - 1) (hK : ∀ g' so' ta' go', sPass (fun k => fl fm fa fb k ti nf) mm ti S (k + 1).toNat g1 so1 ta1 go1 g' so' ta' go' → sPass (fun k => fl fm fa fb k ti nf) mm ti S mm.toNat g so ta go g' so' ta' go') (hA : ∀ j, 0 ≤ j → j ≤ k → kOk ti (g1 j)) (hB : ∀ j, k < j → 0 ≤ j → j < 6 → kOk (ti + 1) (g1 j)) (hGS : ∀ j, 0 ≤ j → j < 6 → g1 j 0 ≤ S j 3) (hso1 : 0 ≤ so1 ∧ so1 ≤ 100000) (hgo1 : 0 ≤ go1 ∧ (go1 ≤ ti ∨ (k < mm - 1 ∧ go1 ≤ ti + 1))) (hcd : cdI go cn lo bo lt wg k mm go1 cn1 bo1 lt1 wg1) (hcn1 : 0 ≤ cn1 ∧ cn1 ≤ 200) (hm : k + 1 < (nn : Int)), G X ({ frames := 3, cells := 0, slots := 0, locals := 66 } : Room) cX7_passes 2 RX7 wsX7_passes E [] 0 0 [(m0, oo 7 (fMo ra mm nf ti so1 ta1 go1 sl lo cn1 lx ly pm pi)), (ra 6, aI E 6 (fun j => g1 j 9)), (ra 15, aI E 8 fm), (ra 16, aI E 8 fa), (ra 17, aI E 8 fb), (ra 12, aI E 6 (fun j => g1 j 7)), (ra 13, aI E 6 (fun j => g1 j 8)), (ra 11, aI E 6 (fun j => wkOf (g1 j))), (ra 5, aI E 6 (fun j => g1 j 0)), (ra 4, aI E 6 (fun j => S j 3)), (ra 1, aI E 6 (fun j => S j 0)), (ra 2, aI E 6 (fun j => S j 1)), (ra 3, aI E 6 (fun j => S j 2)), (ra 7, aI E 6 (fun j => g1 j 4)), (ra 8, aI E 6 (fun j => g1 j 5)), (ra 9, aI E 6 (fun j => g1 j 6)), (ra 10, aI E 6 (fun j => g1 j 10)), (ra 26, aI E 200 lt1), (ra 27, aI E 200 bo1), (ra 28, aI E 200 wg1), (ra 23, aI E 8 ld)] [(0, .ref m0), (1, .int (iI k))] 7 [] := by
    intro nn
    induction nn with
    | zero => intro k g1 so1 ta1 go1 cn1 bo1 lt1 wg1 hkr hK hA hB hGS hso1 hgo1 hcd hcn1 hm; exfalso; omega
    | succ nn ih7 =>
      intro k g1 so1 ta1 go1 cn1 bo1 lt1 wg1 hkr hK hA hB hGS hso1 hgo1 hcd hcn1 hm
      refine g_iload_n 1 dX7_passes_7 rfl rfl ?_
      refine g_if_lt (tgt := 28) (by unfold R32; omega) dX7_passes_8 rfl (fun c_1 => ?_) (fun c_1 => ?_)
      · refine g_aload_n 0 dX7_passes_28 rfl rfl ?_
        refine g_get (C := RX7) (T := TX7) (N := 43) 0 6 (fun _ h => List.mem_cons_of_mem _ (List.mem_append_right _ h)) (List.mem_of_getElem? (i := 2) rfl) rfl rfl (by decide) rfl rfl dX7_passes_29 ?_
        refine g_aload_n 0 dX7_passes_32 rfl rfl ?_
        refine g_get (C := RX7) (T := TX7) (N := 43) 0 0 (fun _ h => List.mem_cons_of_mem _ (List.mem_append_right _ h)) (List.mem_of_getElem? (i := 1) rfl) rfl rfl (by decide) rfl rfl dX7_passes_33 ?_
        refine g_iconst dX7_passes_36 ?_
        refine g_isub dX7_passes_37 ?_
        refine g_iald 1 dX7_passes_38 rfl (by decide) (by omega) (by omega) ?_
        refine g_top (y := iI (g1 (mm - 1) 9)) rfl ?_
        refine g_iconst dX7_passes_39 ?_
        refine g_icmp_eq (tgt := 114) (by have q9 := (hB (mm - 1) (by omega) (by omega) (by omega)).1; unfold mOk at q9; unfold R32; omega) (by have q9 := (hB (mm - 1) (by omega) (by omega) (by omega)).1; unfold mOk at q9; unfold R32; omega) dX7_passes_40 rfl (fun hst => ?_) (fun hst => ?_)
        · refine g_aload_n 0 dX7_passes_114 rfl rfl ?_
          refine g_dup dX7_passes_115 rfl ?_
          refine g_get (C := RX7) (T := TX7) (N := 43) 0 18 (fun _ h => List.mem_cons_of_mem _ (List.mem_append_right _ h)) (List.mem_of_getElem? (i := 5) rfl) rfl rfl (by decide) rfl rfl dX7_passes_116 ?_
          refine g_iconst dX7_passes_119 ?_
          refine g_iadd dX7_passes_120 ?_
          refine g_put (C := RX7) (T := TX7) (N := 43) (ws1 := [(m0, oo 7 (fMo ra mm nf (ti + 1) so1 ta1 go1 sl lo cn1 lx ly pm pi)), (ra 6, aI E 6 (fun j => g1 j 9)), (ra 15, aI E 8 fm), (ra 16, aI E 8 fa), (ra 17, aI E 8 fb), (ra 12, aI E 6 (fun j => g1 j 7)), (ra 13, aI E 6 (fun j => g1 j 8)), (ra 11, aI E 6 (fun j => wkOf (g1 j))), (ra 5, aI E 6 (fun j => g1 j 0)), (ra 4, aI E 6 (fun j => S j 3)), (ra 1, aI E 6 (fun j => S j 0)), (ra 2, aI E 6 (fun j => S j 1)), (ra 3, aI E 6 (fun j => S j 2)), (ra 7, aI E 6 (fun j => g1 j 4)), (ra 8, aI E 6 (fun j => g1 j 5)), (ra 9, aI E 6 (fun j => g1 j 6)), (ra 10, aI E 6 (fun j => g1 j 10)), (ra 26, aI E 200 lt1), (ra 27, aI E 200 bo1), (ra 28, aI E 200 wg1), (ra 23, aI E 8 ld)]) 0 18 (fun _ h => List.mem_cons_of_mem _ (List.mem_append_right _ h)) tyX7 tyX7_ok nmX7 (List.mem_of_getElem? (i := 5) rfl) rfl rfl (by decide) rfl (tyX7_ok 18 (by decide)) rfl rfl (by first | decide | exact Nat.le_of_ble_eq_true rfl) dX7_passes_121 rfl rfl ?_
          exact g_vret hRet dX7_passes_124 ⟨g1, so1, ta1, go1, sl, ld, cn1, bo1, lt1, wg1, (by refine ⟨hK _ _ _ _ (by rw [show k + 1 = 0 by omega]; exact ⟨rfl, rfl, rfl, rfl⟩), ?_, rfl, cdI_e hcd⟩; unfold sLay; rw [if_pos (by assumption)]; exact ⟨rfl, rfl⟩), (by exact ⟨fun j j0 j1 => hB j (by omega) j0 j1, hGS, hso1, by omega, hcn1⟩), rfl⟩
        · refine g_aload_n 0 dX7_passes_43 rfl rfl ?_
          refine g_dup dX7_passes_44 rfl ?_
          refine g_get (C := RX7) (T := TX7) (N := 43) 0 22 (fun _ h => List.mem_cons_of_mem _ (List.mem_append_right _ h)) (List.mem_of_getElem? (i := 3) rfl) rfl rfl (by decide) rfl rfl dX7_passes_45 ?_
          refine g_iconst dX7_passes_48 ?_
          refine g_iadd dX7_passes_49 ?_
          refine g_put (C := RX7) (T := TX7) (N := 43) (ws1 := [(m0, oo 7 (fMo ra mm nf ti so1 ta1 go1 (sl + 1) lo cn1 lx ly pm pi)), (ra 6, aI E 6 (fun j => g1 j 9)), (ra 15, aI E 8 fm), (ra 16, aI E 8 fa), (ra 17, aI E 8 fb), (ra 12, aI E 6 (fun j => g1 j 7)), (ra 13, aI E 6 (fun j => g1 j 8)), (ra 11, aI E 6 (fun j => wkOf (g1 j))), (ra 5, aI E 6 (fun j => g1 j 0)), (ra 4, aI E 6 (fun j => S j 3)), (ra 1, aI E 6 (fun j => S j 0)), (ra 2, aI E 6 (fun j => S j 1)), (ra 3, aI E 6 (fun j => S j 2)), (ra 7, aI E 6 (fun j => g1 j 4)), (ra 8, aI E 6 (fun j => g1 j 5)), (ra 9, aI E 6 (fun j => g1 j 6)), (ra 10, aI E 6 (fun j => g1 j 10)), (ra 26, aI E 200 lt1), (ra 27, aI E 200 bo1), (ra 28, aI E 200 wg1), (ra 23, aI E 8 ld)]) 0 22 (fun _ h => List.mem_cons_of_mem _ (List.mem_append_right _ h)) tyX7 tyX7_ok nmX7 (List.mem_of_getElem? (i := 3) rfl) rfl rfl (by decide) rfl (tyX7_ok 22 (by decide)) rfl rfl (by first | decide | exact Nat.le_of_ble_eq_true rfl) dX7_passes_50 rfl rfl ?_
          refine g_aload_n 0 dX7_passes_53 rfl rfl ?_
          refine g_get (C := RX7) (T := TX7) (N := 43) 0 0 (fun _ h => List.mem_cons_of_mem _ (List.mem_append_right _ h)) (List.mem_of_getElem? (i := 1) rfl) rfl rfl (by decide) rfl rfl dX7_passes_54 ?_
          refine g_iconst dX7_passes_57 ?_
          refine g_isub dX7_passes_58 ?_
          refine g_istore_n (lv1 := [(1, .int (iI (mm - 1))), (0, .ref m0)]) dX7_passes_59 rfl (by decide) rfl ?_
          refine g_lv (lv1 := [(0, .ref m0), (1, .int (iI (mm - 1)))]) [1, 0] rfl ?_
          have L60 : ∀ (nn : Nat) (q : Int) (hq : -1 ≤ q ∧ q ≤ mm - 1) (hcq : cau g1 mm.toNat = cau g1 (q + 1).toNat) (hm : q + 1 < (nn : Int)), G X ({ frames := 3, cells := 0, slots := 0, locals := 66 } : Room) cX7_passes 2 RX7 wsX7_passes E [] 0 0 [(m0, oo 7 (fMo ra mm nf ti so1 ta1 go1 (sl + 1) lo cn1 lx ly pm pi)), (ra 6, aI E 6 (fun j => g1 j 9)), (ra 15, aI E 8 fm), (ra 16, aI E 8 fa), (ra 17, aI E 8 fb), (ra 12, aI E 6 (fun j => g1 j 7)), (ra 13, aI E 6 (fun j => g1 j 8)), (ra 11, aI E 6 (fun j => wkOf (g1 j))), (ra 5, aI E 6 (fun j => g1 j 0)), (ra 4, aI E 6 (fun j => S j 3)), (ra 1, aI E 6 (fun j => S j 0)), (ra 2, aI E 6 (fun j => S j 1)), (ra 3, aI E 6 (fun j => S j 2)), (ra 7, aI E 6 (fun j => g1 j 4)), (ra 8, aI E 6 (fun j => g1 j 5)), (ra 9, aI E 6 (fun j => g1 j 6)), (ra 10, aI E 6 (fun j => g1 j 10)), (ra 26, aI E 200 lt1), (ra 27, aI E 200 bo1), (ra 28, aI E 200 wg1), (ra 23, aI E 8 ld)] [(0, .ref m0), (1, .int (iI q))] 60 [] := by
            intro nn
            induction nn with
            | zero => intro q hq hcq hm; exfalso; omega
            | succ nn ih60 =>
              intro q hq hcq hm
              refine g_iload_n 1 dX7_passes_60 rfl rfl ?_
              refine g_if_lt (tgt := 80) (by unfold R32; omega) dX7_passes_61 rfl (fun c_2 => ?_) (fun c_2 => ?_)
              · refine g_aload_n 0 dX7_passes_80 rfl rfl ?_
                refine g_get (C := RX7) (T := TX7) (N := 43) 0 23 (fun _ h => List.mem_cons_of_mem _ (List.mem_append_right _ h)) (List.mem_of_getElem? (i := 4) rfl) rfl rfl (by decide) rfl rfl dX7_passes_81 ?_
                refine g_iload_n 1 dX7_passes_84 rfl rfl ?_
                refine g_if_ge (tgt := 93) (by unfold R32; omega) dX7_passes_85 rfl (fun c_3 => ?_) (fun c_3 => ?_)
                · refine g_aload_n 0 dX7_passes_93 rfl rfl ?_
                  refine g_get (C := RX7) (T := TX7) (N := 43) 0 6 (fun _ h => List.mem_cons_of_mem _ (List.mem_append_right _ h)) (List.mem_of_getElem? (i := 2) rfl) rfl rfl (by decide) rfl rfl dX7_passes_94 ?_
                  refine g_iload_n 1 dX7_passes_97 rfl rfl ?_
                  refine g_iald 1 dX7_passes_98 rfl (by decide) (by omega) (by omega) ?_
                  refine g_top (y := iI (g1 q 9)) rfl ?_
                  refine g_iconst dX7_passes_99 ?_
                  refine g_icmp_ne (tgt := 108) (by have q9 := (hB q (by omega) (by omega) (by omega)).1; unfold mOk at q9; unfold R32; omega) (by have q9 := (hB q (by omega) (by omega) (by omega)).1; unfold mOk at q9; unfold R32; omega) dX7_passes_100 rfl (fun hs3 => ?_) (fun hs3 => ?_)
                  · refine g_bipush dX7_passes_103 rfl ?_
                    refine g_goto (tgt := 109) dX7_passes_105 rfl ?_
                    refine g_dup2 dX7_passes_109 rfl rfl ?_
                    refine g_iald 20 dX7_passes_110 rfl (by decide) (by omega) (by omega) ?_
                    refine g_iconst dX7_passes_111 ?_
                    refine g_iadd dX7_passes_112 ?_
                    refine g_iast (ws1 := [(m0, oo 7 (fMo ra mm nf ti so1 ta1 go1 (sl + 1) lo cn1 lx ly pm pi)), (ra 6, aI E 6 (fun j => g1 j 9)), (ra 15, aI E 8 fm), (ra 16, aI E 8 fa), (ra 17, aI E 8 fb), (ra 12, aI E 6 (fun j => g1 j 7)), (ra 13, aI E 6 (fun j => g1 j 8)), (ra 11, aI E 6 (fun j => wkOf (g1 j))), (ra 5, aI E 6 (fun j => g1 j 0)), (ra 4, aI E 6 (fun j => S j 3)), (ra 1, aI E 6 (fun j => S j 0)), (ra 2, aI E 6 (fun j => S j 1)), (ra 3, aI E 6 (fun j => S j 2)), (ra 7, aI E 6 (fun j => g1 j 4)), (ra 8, aI E 6 (fun j => g1 j 5)), (ra 9, aI E 6 (fun j => g1 j 6)), (ra 10, aI E 6 (fun j => g1 j 10)), (ra 26, aI E 200 lt1), (ra 27, aI E 200 bo1), (ra 28, aI E 200 wg1), (ra 23, aI E 8 (up ld 6 ((ld 6) + 1)))]) 20 dX7_passes_113 rfl rfl (by decide) (by omega) (by omega) ?_
                    refine g_aload_n 0 dX7_passes_114 rfl rfl ?_
                    refine g_dup dX7_passes_115 rfl ?_
                    refine g_get (C := RX7) (T := TX7) (N := 43) 0 18 (fun _ h => List.mem_cons_of_mem _ (List.mem_append_right _ h)) (List.mem_of_getElem? (i := 5) rfl) rfl rfl (by decide) rfl rfl dX7_passes_116 ?_
                    refine g_iconst dX7_passes_119 ?_
                    refine g_iadd dX7_passes_120 ?_
                    refine g_put (C := RX7) (T := TX7) (N := 43) (ws1 := [(m0, oo 7 (fMo ra mm nf (ti + 1) so1 ta1 go1 (sl + 1) lo cn1 lx ly pm pi)), (ra 6, aI E 6 (fun j => g1 j 9)), (ra 15, aI E 8 fm), (ra 16, aI E 8 fa), (ra 17, aI E 8 fb), (ra 12, aI E 6 (fun j => g1 j 7)), (ra 13, aI E 6 (fun j => g1 j 8)), (ra 11, aI E 6 (fun j => wkOf (g1 j))), (ra 5, aI E 6 (fun j => g1 j 0)), (ra 4, aI E 6 (fun j => S j 3)), (ra 1, aI E 6 (fun j => S j 0)), (ra 2, aI E 6 (fun j => S j 1)), (ra 3, aI E 6 (fun j => S j 2)), (ra 7, aI E 6 (fun j => g1 j 4)), (ra 8, aI E 6 (fun j => g1 j 5)), (ra 9, aI E 6 (fun j => g1 j 6)), (ra 10, aI E 6 (fun j => g1 j 10)), (ra 26, aI E 200 lt1), (ra 27, aI E 200 bo1), (ra 28, aI E 200 wg1), (ra 23, aI E 8 (up ld 6 ((ld 6) + 1)))]) 0 18 (fun _ h => List.mem_cons_of_mem _ (List.mem_append_right _ h)) tyX7 tyX7_ok nmX7 (List.mem_of_getElem? (i := 5) rfl) rfl rfl (by decide) rfl (tyX7_ok 18 (by decide)) rfl rfl (by first | decide | exact Nat.le_of_ble_eq_true rfl) dX7_passes_121 rfl rfl ?_
                    exact g_vret hRet dX7_passes_124 ⟨g1, so1, ta1, go1, (sl + 1), (up ld 6 ((ld 6) + 1)), cn1, bo1, lt1, wg1, (by refine ⟨hK _ _ _ _ (by rw [show k + 1 = 0 by omega]; exact ⟨rfl, rfl, rfl, rfl⟩), ?_, rfl, cdI_e hcd⟩; unfold sLay; rw [if_neg (by assumption)]; refine ⟨rfl, ?_⟩; rw [hcq]; first | (exfalso; omega) | (rw [show q + 1 = 0 by omega]; rfl) | (rw [cau_i g1 (by omega), if_neg (by assumption), if_pos (by assumption)]; done) | (rw [cau_i g1 (by omega), if_neg (by assumption), if_neg (by assumption)]; done)), (by exact ⟨fun j j0 j1 => hB j (by omega) j0 j1, hGS, hso1, by omega, hcn1⟩), rfl⟩
                  · refine g_iload_n 1 dX7_passes_108 rfl rfl ?_
                    refine g_dup2 dX7_passes_109 rfl rfl ?_
                    refine g_iald 20 dX7_passes_110 rfl (by decide) (by omega) (by omega) ?_
                    refine g_iconst dX7_passes_111 ?_
                    refine g_iadd dX7_passes_112 ?_
                    refine g_iast (ws1 := [(m0, oo 7 (fMo ra mm nf ti so1 ta1 go1 (sl + 1) lo cn1 lx ly pm pi)), (ra 6, aI E 6 (fun j => g1 j 9)), (ra 15, aI E 8 fm), (ra 16, aI E 8 fa), (ra 17, aI E 8 fb), (ra 12, aI E 6 (fun j => g1 j 7)), (ra 13, aI E 6 (fun j => g1 j 8)), (ra 11, aI E 6 (fun j => wkOf (g1 j))), (ra 5, aI E 6 (fun j => g1 j 0)), (ra 4, aI E 6 (fun j => S j 3)), (ra 1, aI E 6 (fun j => S j 0)), (ra 2, aI E 6 (fun j => S j 1)), (ra 3, aI E 6 (fun j => S j 2)), (ra 7, aI E 6 (fun j => g1 j 4)), (ra 8, aI E 6 (fun j => g1 j 5)), (ra 9, aI E 6 (fun j => g1 j 6)), (ra 10, aI E 6 (fun j => g1 j 10)), (ra 26, aI E 200 lt1), (ra 27, aI E 200 bo1), (ra 28, aI E 200 wg1), (ra 23, aI E 8 (up ld q ((ld q) + 1)))]) 20 dX7_passes_113 rfl rfl (by decide) (by omega) (by omega) ?_
                    refine g_aload_n 0 dX7_passes_114 rfl rfl ?_
                    refine g_dup dX7_passes_115 rfl ?_
                    refine g_get (C := RX7) (T := TX7) (N := 43) 0 18 (fun _ h => List.mem_cons_of_mem _ (List.mem_append_right _ h)) (List.mem_of_getElem? (i := 5) rfl) rfl rfl (by decide) rfl rfl dX7_passes_116 ?_
                    refine g_iconst dX7_passes_119 ?_
                    refine g_iadd dX7_passes_120 ?_
                    refine g_put (C := RX7) (T := TX7) (N := 43) (ws1 := [(m0, oo 7 (fMo ra mm nf (ti + 1) so1 ta1 go1 (sl + 1) lo cn1 lx ly pm pi)), (ra 6, aI E 6 (fun j => g1 j 9)), (ra 15, aI E 8 fm), (ra 16, aI E 8 fa), (ra 17, aI E 8 fb), (ra 12, aI E 6 (fun j => g1 j 7)), (ra 13, aI E 6 (fun j => g1 j 8)), (ra 11, aI E 6 (fun j => wkOf (g1 j))), (ra 5, aI E 6 (fun j => g1 j 0)), (ra 4, aI E 6 (fun j => S j 3)), (ra 1, aI E 6 (fun j => S j 0)), (ra 2, aI E 6 (fun j => S j 1)), (ra 3, aI E 6 (fun j => S j 2)), (ra 7, aI E 6 (fun j => g1 j 4)), (ra 8, aI E 6 (fun j => g1 j 5)), (ra 9, aI E 6 (fun j => g1 j 6)), (ra 10, aI E 6 (fun j => g1 j 10)), (ra 26, aI E 200 lt1), (ra 27, aI E 200 bo1), (ra 28, aI E 200 wg1), (ra 23, aI E 8 (up ld q ((ld q) + 1)))]) 0 18 (fun _ h => List.mem_cons_of_mem _ (List.mem_append_right _ h)) tyX7 tyX7_ok nmX7 (List.mem_of_getElem? (i := 5) rfl) rfl rfl (by decide) rfl (tyX7_ok 18 (by decide)) rfl rfl (by first | decide | exact Nat.le_of_ble_eq_true rfl) dX7_passes_121 rfl rfl ?_
                    exact g_vret hRet dX7_passes_124 ⟨g1, so1, ta1, go1, (sl + 1), (up ld q ((ld q) + 1)), cn1, bo1, lt1, wg1, (by refine ⟨hK _ _ _ _ (by rw [show k + 1 = 0 by omega]; exact ⟨rfl, rfl, rfl, rfl⟩), ?_, rfl, cdI_e hcd⟩; unfold sLay; rw [if_neg (by assumption)]; refine ⟨rfl, ?_⟩; rw [hcq]; first | (exfalso; omega) | (rw [show q + 1 = 0 by omega]; rfl) | (rw [cau_i g1 (by omega), if_neg (by assumption), if_pos (by assumption)]; done) | (rw [cau_i g1 (by omega), if_neg (by assumption), if_neg (by assumption)]; done)), (by exact ⟨fun j j0 j1 => hB j (by omega) j0 j1, hGS, hso1, by omega, hcn1⟩), rfl⟩
                · refine g_bipush dX7_passes_88 rfl ?_
                  refine g_goto (tgt := 109) dX7_passes_90 rfl ?_
                  refine g_dup2 dX7_passes_109 rfl rfl ?_
                  refine g_iald 20 dX7_passes_110 rfl (by decide) (by omega) (by omega) ?_
                  refine g_iconst dX7_passes_111 ?_
                  refine g_iadd dX7_passes_112 ?_
                  refine g_iast (ws1 := [(m0, oo 7 (fMo ra mm nf ti so1 ta1 go1 (sl + 1) lo cn1 lx ly pm pi)), (ra 6, aI E 6 (fun j => g1 j 9)), (ra 15, aI E 8 fm), (ra 16, aI E 8 fa), (ra 17, aI E 8 fb), (ra 12, aI E 6 (fun j => g1 j 7)), (ra 13, aI E 6 (fun j => g1 j 8)), (ra 11, aI E 6 (fun j => wkOf (g1 j))), (ra 5, aI E 6 (fun j => g1 j 0)), (ra 4, aI E 6 (fun j => S j 3)), (ra 1, aI E 6 (fun j => S j 0)), (ra 2, aI E 6 (fun j => S j 1)), (ra 3, aI E 6 (fun j => S j 2)), (ra 7, aI E 6 (fun j => g1 j 4)), (ra 8, aI E 6 (fun j => g1 j 5)), (ra 9, aI E 6 (fun j => g1 j 6)), (ra 10, aI E 6 (fun j => g1 j 10)), (ra 26, aI E 200 lt1), (ra 27, aI E 200 bo1), (ra 28, aI E 200 wg1), (ra 23, aI E 8 (up ld 7 ((ld 7) + 1)))]) 20 dX7_passes_113 rfl rfl (by decide) (by omega) (by omega) ?_
                  refine g_aload_n 0 dX7_passes_114 rfl rfl ?_
                  refine g_dup dX7_passes_115 rfl ?_
                  refine g_get (C := RX7) (T := TX7) (N := 43) 0 18 (fun _ h => List.mem_cons_of_mem _ (List.mem_append_right _ h)) (List.mem_of_getElem? (i := 5) rfl) rfl rfl (by decide) rfl rfl dX7_passes_116 ?_
                  refine g_iconst dX7_passes_119 ?_
                  refine g_iadd dX7_passes_120 ?_
                  refine g_put (C := RX7) (T := TX7) (N := 43) (ws1 := [(m0, oo 7 (fMo ra mm nf (ti + 1) so1 ta1 go1 (sl + 1) lo cn1 lx ly pm pi)), (ra 6, aI E 6 (fun j => g1 j 9)), (ra 15, aI E 8 fm), (ra 16, aI E 8 fa), (ra 17, aI E 8 fb), (ra 12, aI E 6 (fun j => g1 j 7)), (ra 13, aI E 6 (fun j => g1 j 8)), (ra 11, aI E 6 (fun j => wkOf (g1 j))), (ra 5, aI E 6 (fun j => g1 j 0)), (ra 4, aI E 6 (fun j => S j 3)), (ra 1, aI E 6 (fun j => S j 0)), (ra 2, aI E 6 (fun j => S j 1)), (ra 3, aI E 6 (fun j => S j 2)), (ra 7, aI E 6 (fun j => g1 j 4)), (ra 8, aI E 6 (fun j => g1 j 5)), (ra 9, aI E 6 (fun j => g1 j 6)), (ra 10, aI E 6 (fun j => g1 j 10)), (ra 26, aI E 200 lt1), (ra 27, aI E 200 bo1), (ra 28, aI E 200 wg1), (ra 23, aI E 8 (up ld 7 ((ld 7) + 1)))]) 0 18 (fun _ h => List.mem_cons_of_mem _ (List.mem_append_right _ h)) tyX7 tyX7_ok nmX7 (List.mem_of_getElem? (i := 5) rfl) rfl rfl (by decide) rfl (tyX7_ok 18 (by decide)) rfl rfl (by first | decide | exact Nat.le_of_ble_eq_true rfl) dX7_passes_121 rfl rfl ?_
                  exact g_vret hRet dX7_passes_124 ⟨g1, so1, ta1, go1, (sl + 1), (up ld 7 ((ld 7) + 1)), cn1, bo1, lt1, wg1, (by refine ⟨hK _ _ _ _ (by rw [show k + 1 = 0 by omega]; exact ⟨rfl, rfl, rfl, rfl⟩), ?_, rfl, cdI_e hcd⟩; unfold sLay; rw [if_neg (by assumption)]; refine ⟨rfl, ?_⟩; rw [hcq]; first | (exfalso; omega) | (rw [show q + 1 = 0 by omega]; rfl) | (rw [cau_i g1 (by omega), if_neg (by assumption), if_pos (by assumption)]; done) | (rw [cau_i g1 (by omega), if_neg (by assumption), if_neg (by assumption)]; done)), (by exact ⟨fun j j0 j1 => hB j (by omega) j0 j1, hGS, hso1, by omega, hcn1⟩), rfl⟩
              · refine g_aload_n 0 dX7_passes_64 rfl rfl ?_
                refine g_get (C := RX7) (T := TX7) (N := 43) 0 6 (fun _ h => List.mem_cons_of_mem _ (List.mem_append_right _ h)) (List.mem_of_getElem? (i := 2) rfl) rfl rfl (by decide) rfl rfl dX7_passes_65 ?_
                refine g_iload_n 1 dX7_passes_68 rfl rfl ?_
                refine g_iald 1 dX7_passes_69 rfl (by decide) (by omega) (by omega) ?_
                refine g_top (y := iI (g1 q 9)) rfl ?_
                refine g_iconst dX7_passes_70 ?_
                refine g_icmp_ne (tgt := 80) (by have q9 := (hB q (by omega) (by omega) (by omega)).1; unfold mOk at q9; unfold R32; omega) (by have q9 := (hB q (by omega) (by omega) (by omega)).1; unfold mOk at q9; unfold R32; omega) dX7_passes_71 rfl (fun hs4 => ?_) (fun hs4 => ?_)
                · refine g_iinc (lv1 := [(1, .int (iI (q + (-1)))), (0, .ref m0)]) 1 dX7_passes_74 rfl (by decide) rfl ?_
                  refine g_goto (tgt := 60) dX7_passes_77 rfl ?_
                  refine g_lv (lv1 := [(0, .ref m0), (1, .int (iI (q + (-1))))]) [1, 0] rfl ?_
                  exact ih60 (q + (-1)) (by omega) (by rw [hcq, cau_i g1 (by omega), if_pos (by assumption), show q + -1 + 1 = q by omega]) (by omega)
                · refine g_aload_n 0 dX7_passes_80 rfl rfl ?_
                  refine g_get (C := RX7) (T := TX7) (N := 43) 0 23 (fun _ h => List.mem_cons_of_mem _ (List.mem_append_right _ h)) (List.mem_of_getElem? (i := 4) rfl) rfl rfl (by decide) rfl rfl dX7_passes_81 ?_
                  refine g_iload_n 1 dX7_passes_84 rfl rfl ?_
                  refine g_if_ge (tgt := 93) (by unfold R32; omega) dX7_passes_85 rfl (fun c_4 => ?_) (fun c_4 => ?_)
                  · refine g_aload_n 0 dX7_passes_93 rfl rfl ?_
                    refine g_get (C := RX7) (T := TX7) (N := 43) 0 6 (fun _ h => List.mem_cons_of_mem _ (List.mem_append_right _ h)) (List.mem_of_getElem? (i := 2) rfl) rfl rfl (by decide) rfl rfl dX7_passes_94 ?_
                    refine g_iload_n 1 dX7_passes_97 rfl rfl ?_
                    refine g_iald 1 dX7_passes_98 rfl (by decide) (by omega) (by omega) ?_
                    refine g_top (y := iI (g1 q 9)) rfl ?_
                    refine g_iconst dX7_passes_99 ?_
                    refine g_icmp_ne (tgt := 108) (by have q9 := (hB q (by omega) (by omega) (by omega)).1; unfold mOk at q9; unfold R32; omega) (by have q9 := (hB q (by omega) (by omega) (by omega)).1; unfold mOk at q9; unfold R32; omega) dX7_passes_100 rfl (fun hs3 => ?_) (fun hs3 => ?_)
                    · refine g_bipush dX7_passes_103 rfl ?_
                      refine g_goto (tgt := 109) dX7_passes_105 rfl ?_
                      refine g_dup2 dX7_passes_109 rfl rfl ?_
                      refine g_iald 20 dX7_passes_110 rfl (by decide) (by omega) (by omega) ?_
                      refine g_iconst dX7_passes_111 ?_
                      refine g_iadd dX7_passes_112 ?_
                      refine g_iast (ws1 := [(m0, oo 7 (fMo ra mm nf ti so1 ta1 go1 (sl + 1) lo cn1 lx ly pm pi)), (ra 6, aI E 6 (fun j => g1 j 9)), (ra 15, aI E 8 fm), (ra 16, aI E 8 fa), (ra 17, aI E 8 fb), (ra 12, aI E 6 (fun j => g1 j 7)), (ra 13, aI E 6 (fun j => g1 j 8)), (ra 11, aI E 6 (fun j => wkOf (g1 j))), (ra 5, aI E 6 (fun j => g1 j 0)), (ra 4, aI E 6 (fun j => S j 3)), (ra 1, aI E 6 (fun j => S j 0)), (ra 2, aI E 6 (fun j => S j 1)), (ra 3, aI E 6 (fun j => S j 2)), (ra 7, aI E 6 (fun j => g1 j 4)), (ra 8, aI E 6 (fun j => g1 j 5)), (ra 9, aI E 6 (fun j => g1 j 6)), (ra 10, aI E 6 (fun j => g1 j 10)), (ra 26, aI E 200 lt1), (ra 27, aI E 200 bo1), (ra 28, aI E 200 wg1), (ra 23, aI E 8 (up ld 6 ((ld 6) + 1)))]) 20 dX7_passes_113 rfl rfl (by decide) (by omega) (by omega) ?_
                      refine g_aload_n 0 dX7_passes_114 rfl rfl ?_
                      refine g_dup dX7_passes_115 rfl ?_
                      refine g_get (C := RX7) (T := TX7) (N := 43) 0 18 (fun _ h => List.mem_cons_of_mem _ (List.mem_append_right _ h)) (List.mem_of_getElem? (i := 5) rfl) rfl rfl (by decide) rfl rfl dX7_passes_116 ?_
                      refine g_iconst dX7_passes_119 ?_
                      refine g_iadd dX7_passes_120 ?_
                      refine g_put (C := RX7) (T := TX7) (N := 43) (ws1 := [(m0, oo 7 (fMo ra mm nf (ti + 1) so1 ta1 go1 (sl + 1) lo cn1 lx ly pm pi)), (ra 6, aI E 6 (fun j => g1 j 9)), (ra 15, aI E 8 fm), (ra 16, aI E 8 fa), (ra 17, aI E 8 fb), (ra 12, aI E 6 (fun j => g1 j 7)), (ra 13, aI E 6 (fun j => g1 j 8)), (ra 11, aI E 6 (fun j => wkOf (g1 j))), (ra 5, aI E 6 (fun j => g1 j 0)), (ra 4, aI E 6 (fun j => S j 3)), (ra 1, aI E 6 (fun j => S j 0)), (ra 2, aI E 6 (fun j => S j 1)), (ra 3, aI E 6 (fun j => S j 2)), (ra 7, aI E 6 (fun j => g1 j 4)), (ra 8, aI E 6 (fun j => g1 j 5)), (ra 9, aI E 6 (fun j => g1 j 6)), (ra 10, aI E 6 (fun j => g1 j 10)), (ra 26, aI E 200 lt1), (ra 27, aI E 200 bo1), (ra 28, aI E 200 wg1), (ra 23, aI E 8 (up ld 6 ((ld 6) + 1)))]) 0 18 (fun _ h => List.mem_cons_of_mem _ (List.mem_append_right _ h)) tyX7 tyX7_ok nmX7 (List.mem_of_getElem? (i := 5) rfl) rfl rfl (by decide) rfl (tyX7_ok 18 (by decide)) rfl rfl (by first | decide | exact Nat.le_of_ble_eq_true rfl) dX7_passes_121 rfl rfl ?_
                      exact g_vret hRet dX7_passes_124 ⟨g1, so1, ta1, go1, (sl + 1), (up ld 6 ((ld 6) + 1)), cn1, bo1, lt1, wg1, (by refine ⟨hK _ _ _ _ (by rw [show k + 1 = 0 by omega]; exact ⟨rfl, rfl, rfl, rfl⟩), ?_, rfl, cdI_e hcd⟩; unfold sLay; rw [if_neg (by assumption)]; refine ⟨rfl, ?_⟩; rw [hcq]; first | (exfalso; omega) | (rw [show q + 1 = 0 by omega]; rfl) | (rw [cau_i g1 (by omega), if_neg (by assumption), if_pos (by assumption)]; done) | (rw [cau_i g1 (by omega), if_neg (by assumption), if_neg (by assumption)]; done)), (by exact ⟨fun j j0 j1 => hB j (by omega) j0 j1, hGS, hso1, by omega, hcn1⟩), rfl⟩
                    · refine g_iload_n 1 dX7_passes_108 rfl rfl ?_
                      refine g_dup2 dX7_passes_109 rfl rfl ?_
                      refine g_iald 20 dX7_passes_110 rfl (by decide) (by omega) (by omega) ?_
                      refine g_iconst dX7_passes_111 ?_
                      refine g_iadd dX7_passes_112 ?_
                      refine g_iast (ws1 := [(m0, oo 7 (fMo ra mm nf ti so1 ta1 go1 (sl + 1) lo cn1 lx ly pm pi)), (ra 6, aI E 6 (fun j => g1 j 9)), (ra 15, aI E 8 fm), (ra 16, aI E 8 fa), (ra 17, aI E 8 fb), (ra 12, aI E 6 (fun j => g1 j 7)), (ra 13, aI E 6 (fun j => g1 j 8)), (ra 11, aI E 6 (fun j => wkOf (g1 j))), (ra 5, aI E 6 (fun j => g1 j 0)), (ra 4, aI E 6 (fun j => S j 3)), (ra 1, aI E 6 (fun j => S j 0)), (ra 2, aI E 6 (fun j => S j 1)), (ra 3, aI E 6 (fun j => S j 2)), (ra 7, aI E 6 (fun j => g1 j 4)), (ra 8, aI E 6 (fun j => g1 j 5)), (ra 9, aI E 6 (fun j => g1 j 6)), (ra 10, aI E 6 (fun j => g1 j 10)), (ra 26, aI E 200 lt1), (ra 27, aI E 200 bo1), (ra 28, aI E 200 wg1), (ra 23, aI E 8 (up ld q ((ld q) + 1)))]) 20 dX7_passes_113 rfl rfl (by decide) (by omega) (by omega) ?_
                      refine g_aload_n 0 dX7_passes_114 rfl rfl ?_
                      refine g_dup dX7_passes_115 rfl ?_
                      refine g_get (C := RX7) (T := TX7) (N := 43) 0 18 (fun _ h => List.mem_cons_of_mem _ (List.mem_append_right _ h)) (List.mem_of_getElem? (i := 5) rfl) rfl rfl (by decide) rfl rfl dX7_passes_116 ?_
                      refine g_iconst dX7_passes_119 ?_
                      refine g_iadd dX7_passes_120 ?_
                      refine g_put (C := RX7) (T := TX7) (N := 43) (ws1 := [(m0, oo 7 (fMo ra mm nf (ti + 1) so1 ta1 go1 (sl + 1) lo cn1 lx ly pm pi)), (ra 6, aI E 6 (fun j => g1 j 9)), (ra 15, aI E 8 fm), (ra 16, aI E 8 fa), (ra 17, aI E 8 fb), (ra 12, aI E 6 (fun j => g1 j 7)), (ra 13, aI E 6 (fun j => g1 j 8)), (ra 11, aI E 6 (fun j => wkOf (g1 j))), (ra 5, aI E 6 (fun j => g1 j 0)), (ra 4, aI E 6 (fun j => S j 3)), (ra 1, aI E 6 (fun j => S j 0)), (ra 2, aI E 6 (fun j => S j 1)), (ra 3, aI E 6 (fun j => S j 2)), (ra 7, aI E 6 (fun j => g1 j 4)), (ra 8, aI E 6 (fun j => g1 j 5)), (ra 9, aI E 6 (fun j => g1 j 6)), (ra 10, aI E 6 (fun j => g1 j 10)), (ra 26, aI E 200 lt1), (ra 27, aI E 200 bo1), (ra 28, aI E 200 wg1), (ra 23, aI E 8 (up ld q ((ld q) + 1)))]) 0 18 (fun _ h => List.mem_cons_of_mem _ (List.mem_append_right _ h)) tyX7 tyX7_ok nmX7 (List.mem_of_getElem? (i := 5) rfl) rfl rfl (by decide) rfl (tyX7_ok 18 (by decide)) rfl rfl (by first | decide | exact Nat.le_of_ble_eq_true rfl) dX7_passes_121 rfl rfl ?_
                      exact g_vret hRet dX7_passes_124 ⟨g1, so1, ta1, go1, (sl + 1), (up ld q ((ld q) + 1)), cn1, bo1, lt1, wg1, (by refine ⟨hK _ _ _ _ (by rw [show k + 1 = 0 by omega]; exact ⟨rfl, rfl, rfl, rfl⟩), ?_, rfl, cdI_e hcd⟩; unfold sLay; rw [if_neg (by assumption)]; refine ⟨rfl, ?_⟩; rw [hcq]; first | (exfalso; omega) | (rw [show q + 1 = 0 by omega]; rfl) | (rw [cau_i g1 (by omega), if_neg (by assumption), if_pos (by assumption)]; done) | (rw [cau_i g1 (by omega), if_neg (by assumption), if_neg (by assumption)]; done)), (by exact ⟨fun j j0 j1 => hB j (by omega) j0 j1, hGS, hso1, by omega, hcn1⟩), rfl⟩
                  · refine g_bipush dX7_passes_88 rfl ?_
                    refine g_goto (tgt := 109) dX7_passes_90 rfl ?_
                    refine g_dup2 dX7_passes_109 rfl rfl ?_
                    refine g_iald 20 dX7_passes_110 rfl (by decide) (by omega) (by omega) ?_
                    refine g_iconst dX7_passes_111 ?_
                    refine g_iadd dX7_passes_112 ?_
                    refine g_iast (ws1 := [(m0, oo 7 (fMo ra mm nf ti so1 ta1 go1 (sl + 1) lo cn1 lx ly pm pi)), (ra 6, aI E 6 (fun j => g1 j 9)), (ra 15, aI E 8 fm), (ra 16, aI E 8 fa), (ra 17, aI E 8 fb), (ra 12, aI E 6 (fun j => g1 j 7)), (ra 13, aI E 6 (fun j => g1 j 8)), (ra 11, aI E 6 (fun j => wkOf (g1 j))), (ra 5, aI E 6 (fun j => g1 j 0)), (ra 4, aI E 6 (fun j => S j 3)), (ra 1, aI E 6 (fun j => S j 0)), (ra 2, aI E 6 (fun j => S j 1)), (ra 3, aI E 6 (fun j => S j 2)), (ra 7, aI E 6 (fun j => g1 j 4)), (ra 8, aI E 6 (fun j => g1 j 5)), (ra 9, aI E 6 (fun j => g1 j 6)), (ra 10, aI E 6 (fun j => g1 j 10)), (ra 26, aI E 200 lt1), (ra 27, aI E 200 bo1), (ra 28, aI E 200 wg1), (ra 23, aI E 8 (up ld 7 ((ld 7) + 1)))]) 20 dX7_passes_113 rfl rfl (by decide) (by omega) (by omega) ?_
                    refine g_aload_n 0 dX7_passes_114 rfl rfl ?_
                    refine g_dup dX7_passes_115 rfl ?_
                    refine g_get (C := RX7) (T := TX7) (N := 43) 0 18 (fun _ h => List.mem_cons_of_mem _ (List.mem_append_right _ h)) (List.mem_of_getElem? (i := 5) rfl) rfl rfl (by decide) rfl rfl dX7_passes_116 ?_
                    refine g_iconst dX7_passes_119 ?_
                    refine g_iadd dX7_passes_120 ?_
                    refine g_put (C := RX7) (T := TX7) (N := 43) (ws1 := [(m0, oo 7 (fMo ra mm nf (ti + 1) so1 ta1 go1 (sl + 1) lo cn1 lx ly pm pi)), (ra 6, aI E 6 (fun j => g1 j 9)), (ra 15, aI E 8 fm), (ra 16, aI E 8 fa), (ra 17, aI E 8 fb), (ra 12, aI E 6 (fun j => g1 j 7)), (ra 13, aI E 6 (fun j => g1 j 8)), (ra 11, aI E 6 (fun j => wkOf (g1 j))), (ra 5, aI E 6 (fun j => g1 j 0)), (ra 4, aI E 6 (fun j => S j 3)), (ra 1, aI E 6 (fun j => S j 0)), (ra 2, aI E 6 (fun j => S j 1)), (ra 3, aI E 6 (fun j => S j 2)), (ra 7, aI E 6 (fun j => g1 j 4)), (ra 8, aI E 6 (fun j => g1 j 5)), (ra 9, aI E 6 (fun j => g1 j 6)), (ra 10, aI E 6 (fun j => g1 j 10)), (ra 26, aI E 200 lt1), (ra 27, aI E 200 bo1), (ra 28, aI E 200 wg1), (ra 23, aI E 8 (up ld 7 ((ld 7) + 1)))]) 0 18 (fun _ h => List.mem_cons_of_mem _ (List.mem_append_right _ h)) tyX7 tyX7_ok nmX7 (List.mem_of_getElem? (i := 5) rfl) rfl rfl (by decide) rfl (tyX7_ok 18 (by decide)) rfl rfl (by first | decide | exact Nat.le_of_ble_eq_true rfl) dX7_passes_121 rfl rfl ?_
                    exact g_vret hRet dX7_passes_124 ⟨g1, so1, ta1, go1, (sl + 1), (up ld 7 ((ld 7) + 1)), cn1, bo1, lt1, wg1, (by refine ⟨hK _ _ _ _ (by rw [show k + 1 = 0 by omega]; exact ⟨rfl, rfl, rfl, rfl⟩), ?_, rfl, cdI_e hcd⟩; unfold sLay; rw [if_neg (by assumption)]; refine ⟨rfl, ?_⟩; rw [hcq]; first | (exfalso; omega) | (rw [show q + 1 = 0 by omega]; rfl) | (rw [cau_i g1 (by omega), if_neg (by assumption), if_pos (by assumption)]; done) | (rw [cau_i g1 (by omega), if_neg (by assumption), if_neg (by assumption)]; done)), (by exact ⟨fun j j0 j1 => hB j (by omega) j0 j1, hGS, hso1, by omega, hcn1⟩), rfl⟩
          exact L60 _ (mm - 1) (by omega) (by rw [show mm - 1 + 1 = mm by omega]) (lt_nn _)
      · refine g_aload_n 0 dX7_passes_11 rfl rfl ?_
        refine g_get (C := RX7) (T := TX7) (N := 43) 0 6 (fun _ h => List.mem_cons_of_mem _ (List.mem_append_right _ h)) (List.mem_of_getElem? (i := 2) rfl) rfl rfl (by decide) rfl rfl dX7_passes_12 ?_
        refine g_iload_n 1 dX7_passes_15 rfl rfl ?_
        refine g_aload_n 0 dX7_passes_16 rfl rfl ?_
        refine g_iload_n 1 dX7_passes_17 rfl rfl ?_
        refine g_callV_i (n := 1) (As := [.int (iI k)]) (wr := [(ra 6, aI E 6 (fun j => g1 j 9)), (ra 23, aI E 8 ld)]) (C := RX7) [.int (iI k), .ref (ra 6)] (c_X7_steps E m0 ra mm nf ti so1 ta1 go1 sl lo cn1 lx ly pm pi g1 S fm fa fb lt1 bo1 wg1 k (by omega) (by omega) (by omega) (by omega) (by omega) (by omega) (by omega) (by exact hfm) (by exact hfa) (by exact hfb) (by omega) (by exact hA k (by omega) (by omega)) (by exact hS k (by omega) (by omega)) (by intro j j0 j1; by_cases e : j ≤ k; exact (hA j j0 e).1.1; exact (hB j (by omega) j0 j1).1.1) (by exact hGS k (by omega) (by omega))) [0, 2, 3, 4, 5, 6, 7, 8, 9, 10, 11, 12, 13, 14, 15, 16, 17, 18, 19] [1, 20] 0 rfl rfl gX7_passes_X7_steps rfl ⟨rfl, by decide +kernel⟩ ⟨by decide, by decide⟩ rfl rfl rfl rfl rfl (by decide) rfl (by decide) (by decide) (fun _ h => absurd h List.not_mem_nil) dX7_passes_18 rfl (Nat.le_of_ble_eq_true rfl) ⟨by decide, by decide⟩ (fun r u p_5 => ?_)
        obtain ⟨x, cc, tk, gd, so_6, ta_7, gp_8, wk_9, fi_10, re_11, sm_12, wa_13, fr_14, rn_15, hS1, h1, h2, h3, h4, h5, h6, rfl, rfl⟩ := p_5
        refine g_perm (ws1 := [(m0, oo 7 (fMo ra mm nf ti so_6 ta_7 (if gd = 0 then go1 else go1 + 1) sl lo (if gd = 1 ∧ cn1 < 200 then cn1 + 1 else cn1) lx ly pm pi)), (ra 6, aI E 6 (fun j => g1 j 9)), (ra 15, aI E 8 fm), (ra 16, aI E 8 fa), (ra 17, aI E 8 fb), (ra 12, aI E 6 wa_13), (ra 13, aI E 6 fr_14), (ra 11, aI E 6 wk_9), (ra 5, aI E 6 gp_8), (ra 4, aI E 6 (fun j => S j 3)), (ra 1, aI E 6 (fun j => S j 0)), (ra 2, aI E 6 (fun j => S j 1)), (ra 3, aI E 6 (fun j => S j 2)), (ra 7, aI E 6 fi_10), (ra 8, aI E 6 re_11), (ra 9, aI E 6 sm_12), (ra 10, aI E 6 rn_15), (ra 26, aI E 200 (if gd = 1 ∧ cn1 < 200 then up lt1 cn1 lo else lt1)), (ra 27, aI E 200 (if gd = 1 ∧ cn1 < 200 then up bo1 cn1 (-4) else bo1)), (ra 28, aI E 200 (if gd = 1 ∧ cn1 < 200 then up wg1 cn1 (-4) else wg1)), (ra 23, aI E 8 ld)]) [2, 0, 3, 4, 5, 6, 7, 8, 9, 10, 11, 12, 13, 14, 15, 16, 17, 18, 19, 20, 1] rfl (by decide) rfl ?_
        have hav : 0 ≤ (if k = 0 then so1 else g1 (k - 1) 0) := by split; exact hso1.1; exact ((hA (k - 1) (by omega) (by omega)).1.1.1)
        have hok := sStep_ok (t := ti) hS1 (hA k (by omega) (by omega)) (hS k (by omega) (by omega)) (by omega) (by omega) (by omega) hav
        have hgd := sStep_gd hS1
        refine g_iast (ws1 := [(m0, oo 7 (fMo ra mm nf ti so_6 ta_7 (if gd = 0 then go1 else go1 + 1) sl lo (if gd = 1 ∧ cn1 < 200 then cn1 + 1 else cn1) lx ly pm pi)), (ra 6, aI E 6 (up (fun j => g1 j 9) k x)), (ra 15, aI E 8 fm), (ra 16, aI E 8 fa), (ra 17, aI E 8 fb), (ra 12, aI E 6 wa_13), (ra 13, aI E 6 fr_14), (ra 11, aI E 6 wk_9), (ra 5, aI E 6 gp_8), (ra 4, aI E 6 (fun j => S j 3)), (ra 1, aI E 6 (fun j => S j 0)), (ra 2, aI E 6 (fun j => S j 1)), (ra 3, aI E 6 (fun j => S j 2)), (ra 7, aI E 6 fi_10), (ra 8, aI E 6 re_11), (ra 9, aI E 6 sm_12), (ra 10, aI E 6 rn_15), (ra 26, aI E 200 (if gd = 1 ∧ cn1 < 200 then up lt1 cn1 lo else lt1)), (ra 27, aI E 200 (if gd = 1 ∧ cn1 < 200 then up bo1 cn1 (-4) else bo1)), (ra 28, aI E 200 (if gd = 1 ∧ cn1 < 200 then up wg1 cn1 (-4) else wg1)), (ra 23, aI E 8 ld)]) 1 dX7_passes_21 rfl rfl (by decide) (by omega) (by omega) ?_
        have hC_16 : (fun j => stepG g1 k x cc tk j 0) = (gp_8) := by rw [h2]; exact col0
        have hC_17 : (fun j => wkOf (stepG g1 k x cc tk j)) = (wk_9) := by rw [h3]; exact colW
        have hC_18 : (fun j => stepG g1 k x cc tk j 9) = (up (fun j => g1 j 9) k x) := by exact colN (by omega) (finM_9 _ _)
        have hC_19 : (fun j => stepG g1 k x cc tk j 10) = (rn_15) := by rw [h5]; exact colN (by omega) (finM_10 _ _)
        have hC_20 : (fun j => stepG g1 k x cc tk j 4) = (fi_10) := by rw [h4.1]; exact colN (by omega) (finM_o _ _ (by omega) (by omega))
        have hC_21 : (fun j => stepG g1 k x cc tk j 5) = (re_11) := by rw [h4.2.1]; exact colN (by omega) (finM_o _ _ (by omega) (by omega))
        have hC_22 : (fun j => stepG g1 k x cc tk j 6) = (sm_12) := by rw [h4.2.2.1]; exact colN (by omega) (finM_o _ _ (by omega) (by omega))
        have hC_23 : (fun j => stepG g1 k x cc tk j 7) = (wa_13) := by rw [h4.2.2.2.1]; exact colN (by omega) (finM_o _ _ (by omega) (by omega))
        have hC_24 : (fun j => stepG g1 k x cc tk j 8) = (fr_14) := by rw [h4.2.2.2.2]; exact colN (by omega) (finM_o _ _ (by omega) (by omega))
        refine g_as (ws1 := [(m0, oo 7 (fMo ra mm nf ti so_6 ta_7 (if gd = 0 then go1 else go1 + 1) sl lo (if gd = 1 ∧ cn1 < 200 then cn1 + 1 else cn1) lx ly pm pi)), (ra 6, aI E 6 (fun j => stepG g1 k x cc tk j 9)), (ra 15, aI E 8 fm), (ra 16, aI E 8 fa), (ra 17, aI E 8 fb), (ra 12, aI E 6 (fun j => stepG g1 k x cc tk j 7)), (ra 13, aI E 6 (fun j => stepG g1 k x cc tk j 8)), (ra 11, aI E 6 (fun j => wkOf (stepG g1 k x cc tk j))), (ra 5, aI E 6 (fun j => stepG g1 k x cc tk j 0)), (ra 4, aI E 6 (fun j => S j 3)), (ra 1, aI E 6 (fun j => S j 0)), (ra 2, aI E 6 (fun j => S j 1)), (ra 3, aI E 6 (fun j => S j 2)), (ra 7, aI E 6 (fun j => stepG g1 k x cc tk j 4)), (ra 8, aI E 6 (fun j => stepG g1 k x cc tk j 5)), (ra 9, aI E 6 (fun j => stepG g1 k x cc tk j 6)), (ra 10, aI E 6 (fun j => stepG g1 k x cc tk j 10)), (ra 26, aI E 200 (if gd = 1 ∧ cn1 < 200 then up lt1 cn1 lo else lt1)), (ra 27, aI E 200 (if gd = 1 ∧ cn1 < 200 then up bo1 cn1 (-4) else bo1)), (ra 28, aI E 200 (if gd = 1 ∧ cn1 < 200 then up wg1 cn1 (-4) else wg1)), (ra 23, aI E 8 ld)]) ?_ (by rw [hC_16, hC_17, hC_18, hC_19, hC_20, hC_21, hC_22, hC_23, hC_24]) rfl rfl
        refine g_iinc (lv1 := [(1, .int (iI (k + (-1)))), (0, .ref m0)]) 1 dX7_passes_22 rfl (by decide) rfl ?_
        refine g_goto (tgt := 7) dX7_passes_25 rfl ?_
        refine g_lv (lv1 := [(0, .ref m0), (1, .int (iI (k + (-1))))]) [1, 0] rfl ?_
        exact ih7 (k + (-1)) (stepG g1 k x cc tk) so_6 ta_7 (if gd = 0 then go1 else go1 + 1) (if gd = 1 ∧ cn1 < 200 then cn1 + 1 else cn1) (if gd = 1 ∧ cn1 < 200 then up bo1 cn1 (-4) else bo1) (if gd = 1 ∧ cn1 < 200 then up lt1 cn1 lo else lt1) (if gd = 1 ∧ cn1 < 200 then up wg1 cn1 (-4) else wg1) (by omega) (by intro g' so' ta' go' h; rw [show k + -1 + 1 = k by omega] at h; exact hK _ _ _ _ (sPass_i (by omega) hS1 (by rw [← h1.1, ← h1.2]; exact h))) (by intro j j0 j1; by_cases e : j = k; (rw [e, stepG_k]; exfalso; omega); by_cases e2 : k ≠ 0 ∧ j = k - 1; (rw [e2.2, stepG_p g1 x cc tk e2.1]; exact gap_ok (hA (k - 1) (by omega) (by omega)) (by have q := hok.2.2.1; rw [if_neg e2.1] at q; exact q)); rw [stepG_o g1 x cc tk e (by omega)]; exact hA j j0 (by omega)) (by intro j j2 j0 j1; by_cases e : j = k; (rw [e, stepG_k]; exact hok.1); by_cases e2 : k ≠ 0 ∧ j = k - 1; (rw [e2.2, stepG_p g1 x cc tk e2.1]; exfalso; omega); rw [stepG_o g1 x cc tk e (by omega)]; exact hB j (by omega) j0 j1) (by intro j j0 j1; by_cases e : j = k; (rw [e, stepG_k]; rw [finM_o x cc (by omega) (by omega)]; exact sStep_gs hS1 (hGS k (by omega) (by omega)) (by omega)); by_cases e2 : k ≠ 0 ∧ j = k - 1; (rw [e2.2, stepG_p g1 x cc tk e2.1]; have q8 := hGS (k - 1) (by omega) (by omega); show (if tk = 0 then g1 (k - 1) 0 else g1 (k - 1) 0 - 1) ≤ _; split <;> omega); rw [stepG_o g1 x cc tk e (by omega)]; exact hGS j j0 j1) (by rw [h1.1]; have q := hok.2.2.1; split; (rw [if_pos (by assumption)] at q; split <;> omega); omega) (by split <;> omega) (by exact cdI_b hcd (by omega) hgd) (by split <;> omega) (by omega)
  exact L7 _ (mm - 1) g so ta go cn bo lt wg (by omega) (by intro g' so' ta' go' h; rw [show mm - 1 + 1 = mm by omega] at h; exact h) (by intro j j0 j1; exact hgk j j0 (by omega)) (by intro j j2 j0 j1; exact kOk_w (hgk j j0 j1)) (by exact hgs) (by omega) (by omega) (by exact Or.inl ⟨rfl, rfl, rfl, rfl, rfl⟩) (by omega) (lt_nn _)

end REF2B
