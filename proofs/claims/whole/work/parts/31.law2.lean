section LAW2
theorem o_pack {cn : Int} {bo lt wg cl pl se un on ru : Int → Int} {code box x y : Int} {bo1 un1 bo2 un2 : Int → Int} (C : ICd cn bo lt wg cl pl se un on) (hr : hruP ru) (a : sp_pack cn bo cl un ru code box x bo1 un1) (b : sp_pack cn bo cl un ru code box y bo2 un2) : (x = y ∧ bo1 = bo2 ∧ un1 = un2) ∧ ICd cn bo1 lt wg cl pl se un1 on := by
  unfold sp_pack at a b
  by_cases q : ¬ ((0 ≤ code ∧ code ≤ 199) ∧ 0 ≤ box ∧ box ≤ 29)
  · rw [if_pos q] at a b
    obtain ⟨rfl, rfl, rfl⟩ := a
    obtain ⟨rfl, rfl, rfl⟩ := b
    exact ⟨⟨rfl, rfl, rfl⟩, C⟩
  · rw [if_neg q] at a b
    unfold sPack at a b
    by_cases q1 : ¬ (0 ≤ code ∧ code ≤ cn - 1) ∨ bo code ≠ -4 ∨ cl box ≠ 0
    · rw [if_pos q1] at a b
      obtain ⟨rfl, rfl, rfl⟩ := a
      obtain ⟨rfl, rfl, rfl⟩ := b
      exact ⟨⟨rfl, rfl, rfl⟩, C⟩
    · rw [if_neg q1] at a b
      by_cases q2 : ru 0 ≤ un box
      · rw [if_pos q2] at a b
        obtain ⟨rfl, rfl, rfl⟩ := a
        obtain ⟨rfl, rfl, rfl⟩ := b
        exact ⟨⟨rfl, rfl, rfl⟩, C⟩
      · rw [if_neg q2] at a b
        obtain ⟨rfl, rfl, rfl⟩ := a
        obtain ⟨rfl, rfl, rfl⟩ := b
        obtain ⟨C1, C2, C3, C4, C5, C6, C7, C8, C9, C10, C11⟩ := C
        unfold hruP at hr
        have h8 := C8 box
        refine ⟨⟨rfl, rfl, rfl⟩, C1, fun k => ?_, C3, C4, C5, C6, C7, fun k => ?_, C9, fun c c0 c1 => ?_, C11⟩
        · unfold up; split
          · omega
          · exact C2 k
        · have := C8 k; unfold up; split <;> omega
        · rw [ctI_up box c (by omega) (by omega), ← C10 c c0 c1]
          unfold up
          by_cases z : c = box
          · rw [if_pos z, if_pos z.symm, if_neg (by omega), z]; omega
          · rw [if_neg z, if_neg (Ne.symm z), if_neg (by omega)]; omega
theorem o_close {cn : Int} {bo lt wg cl pl se un on ru : Int → Int} {box x y : Int} {cl1 cl2 : Int → Int} (C : ICd cn bo lt wg cl pl se un on) (a : sp_close cl un ru box x cl1) (b : sp_close cl un ru box y cl2) : (x = y ∧ cl1 = cl2) ∧ ICd cn bo lt wg cl1 pl se un on := by
  unfold sp_close at a b
  by_cases q : ¬ (0 ≤ box ∧ box ≤ 29)
  · rw [if_pos q] at a b
    obtain ⟨rfl, rfl⟩ := a
    obtain ⟨rfl, rfl⟩ := b
    exact ⟨⟨rfl, rfl⟩, C⟩
  · rw [if_neg q] at a b
    unfold sClose at a b
    by_cases q1 : cl box ≠ 0 ∨ un box ≠ ru 0
    · rw [if_pos q1] at a b
      obtain ⟨rfl, rfl⟩ := a
      obtain ⟨rfl, rfl⟩ := b
      exact ⟨⟨rfl, rfl⟩, C⟩
    · rw [if_neg q1] at a b
      obtain ⟨rfl, rfl⟩ := a
      obtain ⟨rfl, rfl⟩ := b
      obtain ⟨C1, C2, C3, C4, C5, C6⟩ := C
      refine ⟨⟨rfl, rfl⟩, C1, C2, C3, C4, fun k => ?_, C6⟩
      have := C5 k; unfold up; split <;> omega
theorem isL_q {bo : Int → Int} {cn box r s : Int} (h : isL bo cn box r) (k : isL bo cn box s) : r = s := by
  rcases h with ⟨h1, h2⟩ | ⟨h1, h2, h3, h4⟩
  · rcases k with ⟨k1, k2⟩ | ⟨k1, k2, k3, k4⟩
    · omega
    · exact absurd k3 (h2 s k1 k2)
  · rcases k with ⟨k1, k2⟩ | ⟨k1, k2, k3, k4⟩
    · exact absurd h3 (k2 r h1 h2)
    · rcases Int.lt_trichotomy r s with q | q | q
      · exact absurd h3 (k4 r h1 q)
      · exact q
      · exact absurd k3 (h4 s k1 q)
theorem isG_q {bo : Int → Int} {cn box r s : Int} (h : isG bo cn box r) (k : isG bo cn box s) : r = s := by
  rcases h with ⟨h1, h2⟩ | ⟨h1, h2, h3, h4⟩
  · rcases k with ⟨k1, k2⟩ | ⟨k1, k2, k3, k4⟩
    · omega
    · exact absurd k3 (h2 s k1 k2)
  · rcases k with ⟨k1, k2⟩ | ⟨k1, k2, k3, k4⟩
    · exact absurd h3 (k2 r h1 h2)
    · rcases Int.lt_trichotomy r s with q | q | q
      · exact absurd k3 (h4 s q k2)
      · exact q
      · exact absurd h3 (k4 r q h2)
theorem isO_q {bo : Int → Int} {cn a b r s : Int} (h : isO bo cn a b r) (k : isO bo cn a b s) : r = s := by
  rcases h with ⟨h1, h2⟩ | ⟨h1, h2, h3, h4, h5, h6⟩
  · rcases k with ⟨k1, k2⟩ | ⟨k1, k2, k3, k4, k5, k6⟩
    · omega
    · exact absurd ⟨s, k1, k2, k3, k4, k5, k6⟩ h2
  · rcases k with ⟨k1, k2⟩ | ⟨k1, k2, k3, k4, k5, k6⟩
    · exact absurd ⟨r, h1, h2, h3, h4, h5, h6⟩ k2
    · exact k6 r h1 h2 h3 h4 h5
theorem o_weigh {cn : Int} {bo lt wg cl pl se un on ru : Int → Int} {box w x y : Int} {bo1 un1 cl1 bo2 un2 cl2 : Int → Int} (C : ICd cn bo lt wg cl pl se un on) (hr : hruP ru) (a : sp_weigh cn bo cl un ru box w x bo1 un1 cl1) (b : sp_weigh cn bo cl un ru box w y bo2 un2 cl2) : (x = y ∧ bo1 = bo2 ∧ un1 = un2 ∧ cl1 = cl2) ∧ ICd cn bo1 lt wg cl1 pl se un1 on := by
  unfold sp_weigh at a b
  by_cases q : ¬ ((0 ≤ box ∧ box ≤ 29) ∧ 0 ≤ w ∧ w ≤ 1000000)
  · rw [if_pos q] at a b
    obtain ⟨rfl, rfl, rfl, rfl⟩ := a
    obtain ⟨rfl, rfl, rfl, rfl⟩ := b
    exact ⟨⟨rfl, rfl, rfl, rfl⟩, C⟩
  · rw [if_neg q] at a b
    by_cases q0 : w - (ru 0 * ru 2 + ru 3) < -ru 4 ∨ ru 4 < w - (ru 0 * ru 2 + ru 3)
    · rw [if_pos q0] at a b
      obtain ⟨rfl, rfl, rfl, rfl⟩ := a
      obtain ⟨rfl, rfl, rfl, rfl⟩ := b
      exact ⟨⟨rfl, rfl, rfl, rfl⟩, C⟩
    · rw [if_neg q0] at a b
      unfold sLost at a b
      by_cases q1 : cl box ≠ 0 ∨ un box ≠ ru 0 - 1
      · rw [if_pos q1] at a b
        obtain ⟨rfl, rfl, rfl, rfl⟩ := a
        obtain ⟨rfl, rfl, rfl, rfl⟩ := b
        exact ⟨⟨rfl, rfl, rfl, rfl⟩, C⟩
      · rw [if_neg q1] at a b
        obtain ⟨l, g, r, a1, a2, a3, a⟩ := a
        obtain ⟨l', g', r', b1, b2, b3, b⟩ := b
        have e1 := isL_q a1 b1
        have e2 := isG_q a2 b2
        rw [← e1, ← e2] at b3
        have e3 := isO_q a3 b3
        rw [← e3] at b
        by_cases q2 : 0 ≤ r ∧ r ≤ cn - 1
        · rw [if_pos q2] at a b
          obtain ⟨ex, rfl, rfl, rfl⟩ := a
          obtain ⟨ey, rfl, rfl, rfl⟩ := b
          obtain ⟨C1, C2, C3, C4, C5, C6, C7, C8, C9, C10, C11⟩ := C
          unfold hruP at hr
          have h8 := C8 box
          have hx : bo r = -4 := by
            rcases a3 with ⟨z, -⟩ | ⟨-, -, -, -, z, -⟩
            · omega
            · exact z
          refine ⟨⟨by omega, rfl, rfl, rfl⟩, C1, fun k => ?_, C3, C4, fun k => ?_, C6, C7, fun k => ?_, C9, fun c c0 c1 => ?_, C11⟩
          · unfold up; split
            · omega
            · exact C2 k
          · have := C5 k; unfold up; split <;> omega
          · have := C8 k; unfold up; split <;> omega
          · rw [ctI_up box c (by omega) (by omega), ← C10 c c0 c1]
            unfold up
            by_cases z : c = box
            · rw [if_pos z, if_pos z.symm, if_neg (by omega), z]; omega
            · rw [if_neg z, if_neg (Ne.symm z), if_neg (by omega)]; omega
        · rw [if_neg q2] at a b
          obtain ⟨rfl, rfl, rfl, rfl⟩ := a
          obtain ⟨rfl, rfl, rfl, rfl⟩ := b
          exact ⟨⟨rfl, rfl, rfl, rfl⟩, C⟩
theorem o_stack {cn : Int} {bo lt wg cl pl se un on ru : Int → Int} {box pal x y : Int} {pl1 on1 pl2 on2 : Int → Int} (C : ICd cn bo lt wg cl pl se un on) (hr : hruP ru) (a : sp_stack cl pl se on ru box pal x pl1 on1) (b : sp_stack cl pl se on ru box pal y pl2 on2) : (x = y ∧ pl1 = pl2 ∧ on1 = on2) ∧ ICd cn bo lt wg cl pl1 se un on1 := by
  unfold sp_stack at a b
  by_cases q : ¬ ((0 ≤ box ∧ box ≤ 29) ∧ 0 ≤ pal ∧ pal ≤ 5)
  · rw [if_pos q] at a b
    obtain ⟨rfl, rfl, rfl⟩ := a
    obtain ⟨rfl, rfl, rfl⟩ := b
    exact ⟨⟨rfl, rfl, rfl⟩, C⟩
  · rw [if_neg q] at a b
    unfold sStack at a b
    by_cases q1 : cl box = 0 ∨ pl box ≠ -4 ∨ se pal ≠ 0
    · rw [if_pos q1] at a b
      obtain ⟨rfl, rfl, rfl⟩ := a
      obtain ⟨rfl, rfl, rfl⟩ := b
      exact ⟨⟨rfl, rfl, rfl⟩, C⟩
    · rw [if_neg q1] at a b
      by_cases q2 : ru 1 ≤ on pal
      · rw [if_pos q2] at a b
        obtain ⟨rfl, rfl, rfl⟩ := a
        obtain ⟨rfl, rfl, rfl⟩ := b
        exact ⟨⟨rfl, rfl, rfl⟩, C⟩
      · rw [if_neg q2] at a b
        obtain ⟨rfl, rfl, rfl⟩ := a
        obtain ⟨rfl, rfl, rfl⟩ := b
        obtain ⟨C1, C2, C3, C4, C5, C6, C7, C8, C9, C10, C11⟩ := C
        unfold hruP at hr
        refine ⟨⟨rfl, rfl, rfl⟩, C1, C2, C3, C4, C5, fun k => ?_, C7, C8, fun k => ?_, C10, fun c c0 c1 => ?_⟩
        · unfold up; split
          · omega
          · exact C6 k
        · have := C9 k; have := C9 pal; unfold up; split <;> omega
        · rw [ctI_up pal c (by omega) (by omega), ← C11 c c0 c1]
          unfold up
          by_cases z : c = pal
          · rw [if_pos z, if_pos z.symm, if_neg (by omega), z]; omega
          · rw [if_neg z, if_neg (Ne.symm z), if_neg (by omega)]; omega
theorem o_seal {cn : Int} {bo lt wg cl pl se un on : Int → Int} {pal x y : Int} {se1 se2 : Int → Int} (C : ICd cn bo lt wg cl pl se un on) (a : sp_seal on se pal x se1) (b : sp_seal on se pal y se2) : (x = y ∧ se1 = se2) ∧ ICd cn bo lt wg cl pl se1 un on := by
  unfold sp_seal at a b
  by_cases q : ¬ (0 ≤ pal ∧ pal ≤ 5)
  · rw [if_pos q] at a b
    obtain ⟨rfl, rfl⟩ := a
    obtain ⟨rfl, rfl⟩ := b
    exact ⟨⟨rfl, rfl⟩, C⟩
  · rw [if_neg q] at a b
    unfold sSeal at a b
    by_cases q1 : se pal ≠ 0 ∨ on pal = 0
    · rw [if_pos q1] at a b
      obtain ⟨rfl, rfl⟩ := a
      obtain ⟨rfl, rfl⟩ := b
      exact ⟨⟨rfl, rfl⟩, C⟩
    · rw [if_neg q1] at a b
      obtain ⟨rfl, rfl⟩ := a
      obtain ⟨rfl, rfl⟩ := b
      obtain ⟨C1, C2, C3, C4, C5, C6, C7, C8⟩ := C
      refine ⟨⟨rfl, rfl⟩, C1, C2, C3, C4, C5, C6, fun k => ?_, C8⟩
      have := C7 k; unfold up; split <;> omega
theorem brk_b {bo : Int → Int} {n box : Int} (k : Int) {m : Int} (h : (bo k = -4 ∨ 0 ≤ bo k) ∧ bo k ≤ m) (hm : -4 ≤ m) : (brk bo n box k = -4 ∨ 0 ≤ brk bo n box k) ∧ brk bo n box k ≤ m := by
  unfold brk; split <;> omega
theorem ctI_brk {bo : Int → Int} {n box c : Int} (hb : 0 ≤ box) (hc : 0 ≤ c) : ctI (brk bo n box) n c = if c = box then 0 else ctI bo n c := by
  by_cases z : c = box
  · rw [if_pos z]
    refine ctI_no (fun k k0 k1 => ?_)
    unfold brk
    by_cases q : 0 ≤ k ∧ k < n ∧ bo k = box
    · rw [if_pos q]; omega
    · rw [if_neg q, z]; intro e; exact q ⟨k0, k1, e⟩
  · rw [if_neg z]
    unfold ctI
    refine sI_c (fun k k0 k1 => ?_)
    unfold brk
    by_cases q : 0 ≤ k ∧ k < n ∧ bo k = box
    · rw [if_pos q, if_neg (by omega), if_neg (by omega)]
    · rw [if_neg q]
theorem o_break {cn : Int} {bo lt wg cl pl se un on : Int → Int} {what i x y : Int} {bo1 un1 cl1 pl1 on1 se1 bo2 un2 cl2 pl2 on2 se2 : Int → Int} (C : ICd cn bo lt wg cl pl se un on) (a : sp_break cn bo cl un pl on se what i x bo1 un1 cl1 pl1 on1 se1) (b : sp_break cn bo cl un pl on se what i y bo2 un2 cl2 pl2 on2 se2) : (x = y ∧ bo1 = bo2 ∧ un1 = un2 ∧ cl1 = cl2 ∧ pl1 = pl2 ∧ on1 = on2 ∧ se1 = se2) ∧ ICd cn bo1 lt wg cl1 pl1 se1 un1 on1 := by
  unfold sp_break at a b
  by_cases q : what = 0 ∧ 0 ≤ i ∧ i ≤ 29
  · rw [if_pos q] at a b
    obtain ⟨a, e1, e2, e3⟩ := a
    obtain ⟨b, f1, f2, f3⟩ := b
    unfold sBrkB at a b
    by_cases q1 : pl i ≠ -4
    · rw [if_pos q1] at a b
      subst e1 e2 e3 f1 f2 f3
      obtain ⟨rfl, rfl, rfl, rfl⟩ := a
      obtain ⟨rfl, rfl, rfl, rfl⟩ := b
      exact ⟨⟨rfl, rfl, rfl, rfl, rfl, rfl, rfl⟩, C⟩
    · rw [if_neg q1] at a b
      subst e1 e2 e3 f1 f2 f3
      obtain ⟨rfl, rfl, rfl, rfl⟩ := a
      obtain ⟨rfl, rfl, rfl, rfl⟩ := b
      obtain ⟨C1, C2, C3, C4, C5, C6, C7, C8, C9, C10, C11⟩ := C
      refine ⟨⟨rfl, rfl, rfl, rfl, rfl, rfl, rfl⟩, C1, fun k => brk_b k (C2 k) (by omega), C3, C4, fun k => ?_, C6, C7, fun k => ?_, C9, fun c c0 c1 => ?_, C11⟩
      · have := C5 k; unfold up; split <;> omega
      · have := C8 k; unfold up; split <;> omega
      · rw [ctI_brk q.2.1 c0]
        unfold up
        by_cases z : c = i
        · rw [if_pos z, if_pos z]
        · rw [if_neg z, if_neg z]; exact C10 c c0 c1
  · rw [if_neg q] at a b
    by_cases q1 : what = 1 ∧ 0 ≤ i ∧ i ≤ 5
    · rw [if_pos q1] at a b
      obtain ⟨rfl, rfl, rfl, rfl, rfl, rfl, rfl⟩ := a
      obtain ⟨rfl, rfl, rfl, rfl, rfl, rfl, rfl⟩ := b
      obtain ⟨C1, C2, C3, C4, C5, C6, C7, C8, C9, C10, C11⟩ := C
      refine ⟨⟨rfl, rfl, rfl, rfl, rfl, rfl, rfl⟩, C1, C2, C3, C4, C5, fun k => brk_b k (C6 k) (by omega), fun k => ?_, C8, fun k => ?_, C10, fun c c0 c1 => ?_⟩
      · have := C7 k; unfold up; split <;> omega
      · have := C9 k; unfold up; split <;> omega
      · rw [ctI_brk q1.2.1 c0]
        unfold up
        by_cases z : c = i
        · rw [if_pos z, if_pos z]
        · rw [if_neg z, if_neg z]; exact C11 c c0 c1
    · rw [if_neg q1] at a b
      obtain ⟨rfl, rfl, rfl, rfl, rfl, rfl, rfl⟩ := a
      obtain ⟨rfl, rfl, rfl, rfl, rfl, rfl, rfl⟩ := b
      exact ⟨⟨rfl, rfl, rfl, rfl, rfl, rfl, rfl⟩, C⟩
theorem o_box {cn : Int} {bo un cl pl : Int → Int} {box what x y : Int} (a : sp_box cn bo un cl pl box what x) (b : sp_box cn bo un cl pl box what y) : x = y := by
  unfold sp_box at a b
  by_cases q : ¬ ((0 ≤ box ∧ box ≤ 29) ∧ 0 ≤ what ∧ what ≤ 4)
  · rw [if_pos q] at a b; omega
  · rw [if_neg q] at a b
    by_cases q0 : what = 0
    · rw [if_pos q0] at a b; omega
    · rw [if_neg q0] at a b
      by_cases q1 : what = 1
      · rw [if_pos q1] at a b; omega
      · rw [if_neg q1] at a b
        by_cases q2 : what = 2
        · rw [if_pos q2] at a b; omega
        · rw [if_neg q2] at a b
          by_cases q3 : what = 3
          · rw [if_pos q3] at a b; exact isL_q a b
          · rw [if_neg q3] at a b; exact isG_q a b
theorem o_scale {cn : Int} {bo lt wg cl pl se un on : Int → Int} {code v x y : Int} {wg1 wg2 : Int → Int} (C : ICd cn bo lt wg cl pl se un on) (a : sp_scale cn wg code v x wg1) (b : sp_scale cn wg code v y wg2) : (x = y ∧ wg1 = wg2) ∧ ICd cn bo lt wg1 cl pl se un on := by
  unfold sp_scale at a b
  by_cases q : ¬ ((0 ≤ code ∧ code ≤ cn - 1) ∧ 0 ≤ v ∧ v ≤ 10000)
  · rw [if_pos q] at a b
    obtain ⟨rfl, rfl⟩ := a
    obtain ⟨rfl, rfl⟩ := b
    exact ⟨⟨rfl, rfl⟩, C⟩
  · rw [if_neg q] at a b
    obtain ⟨rfl, rfl⟩ := a
    obtain ⟨rfl, rfl⟩ := b
    obtain ⟨C1, C2, C3, C4, C5⟩ := C
    refine ⟨⟨rfl, rfl⟩, C1, C2, C3, fun k => ?_, C5⟩
    have := C4 k; unfold up; split <;> omega
theorem o_layer {mk px py np : Int} {zc zd mo mp : Int → Int} {qx qy qa qb x px1 py1 np1 : Int} {zc1 : Int → Int} {y px2 py2 np2 : Int} {zd2 : Int → Int} {mk1 : Int} {mo1 mp2 : Int → Int} (L : ILy mk px py np zc zd mo mp) (a : sp_layer px py np zc qx qy qa qb x px1 py1 np1 zc1) (m : mk1 = (if x = -1 then mk else 1)) (a2 : ∀ k, 0 ≤ mo1 k ∧ mo1 k ≤ 144) (b : sp_layer px py np zd qx qy qa qb y px2 py2 np2 zd2) (b2 : ∀ k, 0 ≤ mp2 k ∧ mp2 k ≤ 144) : (x = y ∧ px1 = px2 ∧ py1 = py2 ∧ np1 = np2) ∧ ILy mk1 px1 py1 np1 zc1 zd2 mo1 mp2 := by
  unfold sp_layer at a b
  by_cases q : ¬ ((1 ≤ qx ∧ qx ≤ 12) ∧ (1 ≤ qy ∧ qy ≤ 12) ∧ (1 ≤ qa ∧ qa ≤ 12) ∧ 1 ≤ qb ∧ qb ≤ 12)
  · rw [if_pos q] at a b
    obtain ⟨rfl, rfl, rfl, rfl, rfl⟩ := a
    obtain ⟨rfl, rfl, rfl, rfl, rfl⟩ := b
    rw [if_pos rfl] at m
    subst m
    exact ⟨⟨rfl, rfl, rfl, rfl⟩, L.1, a2, b2⟩
  · rw [if_neg q] at a b
    have q := Classical.not_not.mp q
    obtain ⟨rfl, rfl, ex, Ps, a3, a4⟩ := a
    obtain ⟨rfl, rfl, ey, Pt, b3, b4⟩ := b
    have e := isLay_u q.2.2.1.1 q.2.2.2.1 q.1 q.2.1 a3 b3
    subst e
    have l1 := rep_len a4
    have l2 := rep_len b4
    have e2 : np1 = np2 := by omega
    rw [← e2] at b4
    rw [if_neg (by omega)] at m
    exact ⟨⟨by omega, rfl, rfl, e2⟩, Or.inr ⟨m, q.1, q.2.1, plOk_of q.2.2.1.1 q.2.2.2.1 q.1 q.2.1 a3 a4, rep_eq a4 b4⟩, a2, b2⟩
theorem q4_e {f g : Int → Int} {i : Int} (h : q4 f i = q4 g i) : f (4 * i) = g (4 * i) ∧ f (4 * i + 1) = g (4 * i + 1) ∧ f (4 * i + 2) = g (4 * i + 2) ∧ f (4 * i + 3) = g (4 * i + 3) := by
  unfold q4 at h
  simp only [Prod.mk.injEq] at h
  exact h
theorem o_planned {mk px py np : Int} {zc zd mo mp : Int → Int} {i what : Int} (L : ILy mk px py np zc zd mo mp) : f_planned px np zd i what = f_planned mk np zc i what := by
  unfold f_planned
  by_cases q : ¬ (0 ≤ i ∧ 0 ≤ what ∧ what ≤ 3)
  · rw [if_pos q, if_pos q]
  · rw [if_neg q, if_neg q]
    rcases L.1 with ⟨l1, l2, -⟩ | ⟨l1, l2, l3, l4, l5⟩
    · rw [if_pos l1, if_pos l2]
    · rw [if_neg (show ¬ px = 0 by omega), if_neg (show ¬ mk = 0 by omega)]
      by_cases z : i < np
      · rw [if_pos z, if_pos z]
        obtain ⟨e0, e1, e2, e3⟩ := q4_e (l5 i (by omega) z)
        rcases (show what = 0 ∨ what = 1 ∨ what = 2 ∨ what = 3 by omega) with rfl | rfl | rfl | rfl
        · rw [Int.add_zero]; exact e0.symm
        · exact e1.symm
        · exact e2.symm
        · exact e3.symm
      · rw [if_neg z, if_neg z]
theorem metC_c {zc zd : Int → Int} {a b n i : Int} (e : ∀ i, 0 ≤ i → i < n → q4 zc i = q4 zd i) (i0 : 0 ≤ i) (i1 : i < n) : metC zd a b n i = metC zc a b n i := by
  unfold metC
  refine sI_c (fun k k0 k1 => ?_)
  obtain ⟨e0, e1, e2, e3⟩ := q4_e (e i i0 i1)
  obtain ⟨f0, f1, f2, f3⟩ := q4_e (e k k0 k1)
  simp only [e0, e1, e2, e3, f0, f1, f2, f3]
theorem o_holds {mk px py np : Int} {zc zd mo mp : Int → Int} (L : ILy mk px py np zc zd mo mp) : f_holds px px py np zd = f_holds mk px py np zc := by
  unfold f_holds
  rcases L.1 with ⟨l1, l2, -⟩ | ⟨l1, l2, l3, l4, l5⟩
  · rw [if_pos l1, if_pos l2]
  · rw [if_neg (by omega), if_neg (by omega)]
    unfold hldC
    refine sI_c (fun k k0 k1 => ?_)
    simp only [metC_c l5 k0 k1]
theorem o_change {ch ci rs : Int → Int} {a b v x y : Int} {ch1 ci1 : Int → Int} (T : ITo ch ci rs) (p : sp_change ch a b v x ch1) (q : sp_change ci a b v y ci1) : x = y ∧ ITo ch1 ci1 rs := by
  unfold sp_change at p q
  by_cases z : ¬ ((0 ≤ a ∧ a ≤ 5) ∧ (0 ≤ b ∧ b ≤ 5) ∧ a ≠ b ∧ 0 ≤ v ∧ v ≤ 500)
  · rw [if_pos z] at p q
    obtain ⟨rfl, rfl⟩ := p
    obtain ⟨rfl, rfl⟩ := q
    exact ⟨rfl, T⟩
  · rw [if_neg z] at p q
    have z := Classical.not_not.mp z
    obtain ⟨rfl, rfl⟩ := p
    obtain ⟨rfl, rfl⟩ := q
    obtain ⟨t1, t2, t3, t4⟩ := T
    refine ⟨t3 a b z.1.1 z.1.2 z.2.1.1 z.2.1.2 z.2.2.1, fun k => ?_, fun k => ?_, fun c d c0 c1 d0 d1 cd => ?_, t4⟩
    · have := t1 k; unfold up; split <;> omega
    · have := t2 k; unfold up; split <;> omega
    · have := t3 c d c0 c1 d0 d1 cd; unfold up; split <;> omega
theorem o_stain {lo : Int} {ru sn : Int → Int} {k v x y : Int} {sn1 sn2 : Int → Int} (H : IRu lo ru sn) (a : sp_stain sn k v x sn1) (b : sp_stain sn k v y sn2) : (x = y ∧ sn1 = sn2) ∧ IRu lo ru sn1 := by
  unfold sp_stain at a b
  by_cases q : ¬ ((0 ≤ k ∧ k ≤ 5) ∧ 0 ≤ v ∧ v ≤ 3)
  · rw [if_pos q] at a b
    obtain ⟨rfl, rfl⟩ := a
    obtain ⟨rfl, rfl⟩ := b
    exact ⟨⟨rfl, rfl⟩, H⟩
  · rw [if_neg q] at a b
    obtain ⟨rfl, rfl⟩ := a
    obtain ⟨rfl, rfl⟩ := b
    refine ⟨⟨rfl, rfl⟩, H.1, H.2.1, fun j => ?_⟩
    have := H.2.2 j; unfold up; split <;> omega
theorem o_tour {ch ci rs sn : Int → Int} {cg s f i : Int} (T : ITo ch ci rs) : f_tour (f_min ci sn cg) s f i = f_tour (f_min ch sn cg) s f i := by
  refine f_tour_c (fun a b a0 a1 b0 b1 ab => ?_) s f i
  unfold f_min
  rw [T.2.2.1 a b a0 a1 b0 b1 ab]
def gz : Int → Int → Int := fun _ f => if f = 1 then 1 else 0
def zz : Int → Int → Int := fun _ _ => 0
theorem i_ln : ILn 2 0 0 0 (sL zz) (gL zz) (gLr gz) := by
  have eg : ∀ j, 0 ≤ j → j < 6 → gL zz j = c0 := fun j j0 j1 => if_pos ⟨j0, j1⟩
  have eh : ∀ j, 0 ≤ j → j < 6 → gLr gz j = up c0 8 0 := fun j j0 j1 => if_pos ⟨j0, j1⟩
  have es : ∀ j, 0 ≤ j → j < 6 → sL zz j = cpI 4 s0 (zz j) := fun j j0 j1 => if_pos ⟨j0, j1⟩
  refine ⟨by omega, by omega, by omega, by omega, ?_, ?_, ?_, ?_, ?_⟩
  · intro j j0 j1; rw [es j j0 j1]; exact sOk_0 _
  · intro j j0 j1; rw [eg j j0 j1]; exact kOk_0
  · intro j j0 j1; rw [eh j j0 j1]; exact kOk_8 kOk_0 (by omega)
  · intro j j0 j1; rw [eh j j0 j1, es j j0 j1, up_n _ _ (by decide), cp4 _ (by omega)]; decide
  · intro j j0 j1; rw [eh j j0 j1, eg j j0 j1]; exact ⟨fun f hf => (up_n _ _ hf).symm, fun z => absurd z (by decide)⟩
theorem i_ft : IFt 0 (fun _ => 0) (fun _ => 0) (fun _ => 0) := ⟨by omega, fun _ => (by decide : (0:Int) ≤ 0 ∧ (0:Int) ≤ 5), fun _ => (by decide : (0:Int) ≤ 0 ∧ (0:Int) ≤ 9999), fun _ => (by decide : (0:Int) ≤ 0 ∧ (0:Int) ≤ 9999)⟩
theorem i_cd : ICd 0 (fun _ => 0) (fun _ => 0) (fun _ => 0) (fun _ => 0) (bf 30 (-4) (fun _ => 0)) (fun _ => 0) (fun _ => 0) (fun _ => 0) := by
  refine ⟨by omega, fun _ => (by decide : ((0:Int) = -4 ∨ (0:Int) ≤ 0) ∧ (0:Int) ≤ 29), fun _ => (by decide : (0:Int) ≤ 0 ∧ (0:Int) ≤ 15), fun _ => (by decide : ((0:Int) = -4 ∨ (0:Int) ≤ 0) ∧ (0:Int) ≤ 10000), fun _ => (by decide : (0:Int) ≤ 0 ∧ (0:Int) ≤ 1), fun k => ?_, fun _ => (by decide : (0:Int) ≤ 0 ∧ (0:Int) ≤ 1), fun _ => (by decide : (0:Int) ≤ 0 ∧ (0:Int) ≤ 200), fun _ => (by decide : (0:Int) ≤ 0 ∧ (0:Int) ≤ 30), fun c c0 c1 => ?_, fun c c0 c1 => ?_⟩
  · unfold bf; split
    · omega
    · exact (by decide : ((0:Int) = -4 ∨ (0:Int) ≤ 0) ∧ (0:Int) ≤ 5)
  · rfl
  · refine (ctI_no (fun k k0 k1 => ?_)).symm
    unfold bf
    rw [if_pos (by omega)]
    omega
theorem i_ru : IRu 0 ru0 (fun _ => 0) := ⟨by omega, by unfold hruP; decide, fun _ => (by decide : (0:Int) ≤ 0 ∧ (0:Int) ≤ 3)⟩
theorem i_ly : ILy 0 0 0 0 (fun _ => 0) (fun _ => 0) (fun _ => 0) (fun _ => 0) := ⟨Or.inl ⟨rfl, rfl, rfl⟩, fun _ => (by decide : (0:Int) ≤ 0 ∧ (0:Int) ≤ 144), fun _ => (by decide : (0:Int) ≤ 0 ∧ (0:Int) ≤ 144)⟩
theorem i_to : ITo (bf 36 30 (fun _ => 0)) (chF 36) (fun _ => 0) := by
  refine ⟨fun k => ?_, fun k => ?_, fun a b a0 a1 b0 b1 ab => ?_, fun g k g0 g1 k0 k1 => ?_⟩
  · unfold bf; split
    · omega
    · exact (by decide : (0:Int) ≤ 0 ∧ (0:Int) ≤ 500)
  · unfold chF; (repeat' split) <;> omega
  · unfold bf chF
    rw [if_pos (by omega), if_pos (by omega), if_neg (by omega)]
  · have := (fin1 (s := g) ⟨g0, g1⟩ (k := k) ⟨k0, k1⟩).2.2.2.2.2.2
    show 0 ≤ (0 : Int) ∧ (0 : Int) ≤ _
    omega

end LAW2
