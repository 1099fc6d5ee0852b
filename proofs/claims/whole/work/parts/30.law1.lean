section LAW1
def ILn (M ti so go : Int) (S g h : Int → Int → Int) : Prop := (2 ≤ M ∧ M ≤ 6) ∧ (0 ≤ ti ∧ ti ≤ 10000) ∧ (0 ≤ so ∧ so ≤ 100000) ∧ (0 ≤ go ∧ go ≤ ti) ∧ (∀ j, 0 ≤ j → j < 6 → sOk (S j)) ∧ (∀ j, 0 ≤ j → j < 6 → kOk ti (g j)) ∧ (∀ j, 0 ≤ j → j < 6 → kOk ti (h j)) ∧ (∀ j, 0 ≤ j → j < 6 → h j 0 ≤ S j 3) ∧ gE g h
def IFt (nf : Int) (fm fa fb : Int → Int) : Prop := (0 ≤ nf ∧ nf ≤ 8) ∧ (∀ k, 0 ≤ fm k ∧ fm k ≤ 5) ∧ (∀ k, 0 ≤ fa k ∧ fa k ≤ 9999) ∧ ∀ k, 0 ≤ fb k ∧ fb k ≤ 9999
def ICd (cn : Int) (bo lt wg cl pl se un on : Int → Int) : Prop := (0 ≤ cn ∧ cn ≤ 200) ∧ (∀ k, (bo k = -4 ∨ 0 ≤ bo k) ∧ bo k ≤ 29) ∧ (∀ k, 0 ≤ lt k ∧ lt k ≤ 15) ∧ (∀ k, (wg k = -4 ∨ 0 ≤ wg k) ∧ wg k ≤ 10000) ∧ (∀ k, 0 ≤ cl k ∧ cl k ≤ 1) ∧ (∀ k, (pl k = -4 ∨ 0 ≤ pl k) ∧ pl k ≤ 5) ∧ (∀ k, 0 ≤ se k ∧ se k ≤ 1) ∧ (∀ k, 0 ≤ un k ∧ un k ≤ 200) ∧ (∀ k, 0 ≤ on k ∧ on k ≤ 30) ∧ (∀ c, 0 ≤ c → c < 30 → un c = ctI bo cn c) ∧ ∀ c, 0 ≤ c → c < 6 → on c = ctI pl 30 c
def hruP (ru : Int → Int) : Prop := (1 ≤ ru 0 ∧ ru 0 ≤ 12) ∧ (1 ≤ ru 1 ∧ ru 1 ≤ 20) ∧ (0 ≤ ru 2 ∧ ru 2 ≤ 10000) ∧ (0 ≤ ru 3 ∧ ru 3 ≤ 10000) ∧ (0 ≤ ru 4 ∧ ru 4 ≤ 1000) ∧ (0 ≤ ru 5 ∧ ru 5 ≤ 500)
def IRu (lo : Int) (ru sn : Int → Int) : Prop := (0 ≤ lo ∧ lo ≤ 15) ∧ hruP ru ∧ ∀ k, 0 ≤ sn k ∧ sn k ≤ 3
def ILy (mk px py np : Int) (zc zd mo mp : Int → Int) : Prop := (mk = 0 ∧ px = 0 ∧ np = 0 ∨ mk = 1 ∧ (1 ≤ px ∧ px ≤ 12) ∧ (1 ≤ py ∧ py ≤ 12) ∧ plOk px py np zc ∧ ∀ i, 0 ≤ i → i < np → q4 zc i = q4 zd i) ∧ (∀ k, 0 ≤ mo k ∧ mo k ≤ 144) ∧ ∀ k, 0 ≤ mp k ∧ mp k ≤ 144
def ITo (ch ci rs : Int → Int) : Prop := (∀ k, 0 ≤ ch k ∧ ch k ≤ 500) ∧ (∀ k, 0 ≤ ci k ∧ ci k ≤ 500) ∧ (∀ a b, 0 ≤ a → a ≤ 5 → 0 ≤ b → b ≤ 5 → a ≠ b → ch (6 * a + b) = ci (6 * a + b)) ∧ rOk rs
theorem cp4 (s : Int → Int) {f : Int} (hf : 0 ≤ f ∧ f < 4) : cpI 4 s0 s f = s0 f := if_pos hf
theorem sOk_0 (s : Int → Int) : sOk (cpI 4 s0 s) := by
  unfold sOk
  rw [cp4 s (f := 0) (by omega), cp4 s (f := 1) (by omega), cp4 s (f := 2) (by omega), cp4 s (f := 3) (by omega)]
  decide
theorem kOk_0 : kOk 0 c0 := by unfold kOk mOk; decide
theorem kOk_8 {t : Int} {c : Int → Int} {v : Int} (h : kOk t c) (hv : 0 ≤ v ∧ v ≤ 10000) : kOk t (up c 8 v) := by
  unfold kOk mOk at *
  rw [up_n _ _ (show (0:Int) ≠ 8 by decide), up_n _ _ (show (1:Int) ≠ 8 by decide), up_n _ _ (show (2:Int) ≠ 8 by decide), up_n _ _ (show (3:Int) ≠ 8 by decide), up_n _ _ (show (7:Int) ≠ 8 by decide), up_n _ _ (show (9:Int) ≠ 8 by decide), up_s]
  omega
theorem kOk_7 {t : Int} {c : Int → Int} (h : kOk t c) (ht : 0 ≤ t) : kOk t (up c 7 0) := by
  unfold kOk mOk at *
  rw [up_n _ _ (show (0:Int) ≠ 7 by decide), up_n _ _ (show (1:Int) ≠ 7 by decide), up_n _ _ (show (2:Int) ≠ 7 by decide), up_n _ _ (show (3:Int) ≠ 7 by decide), up_n _ _ (show (8:Int) ≠ 7 by decide), up_n _ _ (show (9:Int) ≠ 7 by decide), up_s]
  omega
theorem kOk_b {t : Int} {c : Int → Int} (h : kOk t c) : (0 ≤ c 8 ∧ c 8 ≤ 10000) ∧ (0 ≤ c 0 ∧ c 0 ≤ 20) ∧ 0 ≤ c 7 := by
  unfold kOk mOk at h; omega
theorem kOk_m {t : Int} {c : Int → Int} (h : kOk t c) : mOk c := h.1
theorem o_line {M ti so ta go sl nf : Int} {g h S : Int → Int → Int} {ld : Int → Int} {n x M1 ti1 so1 ta1 go1 sl1 nf1 : Int} {g1 S1 : Int → Int → Int} {ld1 : Int → Int} {y M2 ti2 so2 ta2 go2 sl2 nf2 : Int} {h1 S2 : Int → Int → Int} {ld2 : Int → Int} {fm fa fb : Int → Int}
    (H : ILn M ti so go S g h) (hf : IFt nf fm fa fb) (a : sp_line gL M ti so ta go sl nf g S ld n x M1 ti1 so1 ta1 go1 sl1 nf1 g1 S1 ld1) (b : sp_line gLr M ti so ta go sl nf h S ld n y M2 ti2 so2 ta2 go2 sl2 nf2 h1 S2 ld2) :
    (x = y ∧ M1 = M2 ∧ ti1 = ti2 ∧ so1 = so2 ∧ ta1 = ta2 ∧ go1 = go2 ∧ sl1 = sl2 ∧ nf1 = nf2 ∧ S1 = S2 ∧ ld1 = ld2) ∧ ILn M1 ti1 so1 go1 S1 g1 h1 ∧ IFt nf1 fm fa fb := by
  unfold sp_line at a b
  by_cases q : ¬ (2 ≤ n ∧ n ≤ 6)
  · rw [if_pos q] at a b
    obtain ⟨rfl, rfl, rfl, rfl, rfl, rfl, rfl, rfl, rfl, rfl, rfl⟩ := a
    obtain ⟨rfl, rfl, rfl, rfl, rfl, rfl, rfl, rfl, rfl, rfl, rfl⟩ := b
    exact ⟨⟨rfl, rfl, rfl, rfl, rfl, rfl, rfl, rfl, rfl, rfl⟩, H, hf⟩
  · rw [if_neg q] at a b
    obtain ⟨rfl, rfl, rfl, rfl, rfl, rfl, rfl, rfl, rfl, rfl, rfl⟩ := a
    obtain ⟨rfl, rfl, rfl, rfl, rfl, rfl, rfl, rfl, rfl, rfl, rfl⟩ := b
    obtain ⟨H1, H2, H3, H4, H5, H6, H7, H8, H9⟩ := H
    have eg : ∀ j, 0 ≤ j → j < 6 → gL g j = c0 := fun j j0 j1 => if_pos ⟨j0, j1⟩
    have eh : ∀ j, 0 ≤ j → j < 6 → gLr h j = up c0 8 (h j 8) := fun j j0 j1 => if_pos ⟨j0, j1⟩
    have es : ∀ j, 0 ≤ j → j < 6 → sL S j = cpI 4 s0 (S j) := fun j j0 j1 => if_pos ⟨j0, j1⟩
    refine ⟨⟨rfl, rfl, rfl, rfl, rfl, rfl, rfl, rfl, rfl, rfl⟩, ⟨by omega, by omega, by omega, by omega, ?_, ?_, ?_, ?_, ?_⟩, by unfold IFt at *; exact ⟨by omega, hf.2⟩⟩
    · intro j j0 j1; rw [es j j0 j1]; exact sOk_0 _
    · intro j j0 j1; rw [eg j j0 j1]; exact kOk_0
    · intro j j0 j1; rw [eh j j0 j1]; exact kOk_8 kOk_0 (kOk_b (H7 j j0 j1)).1
    · intro j j0 j1; rw [eh j j0 j1, es j j0 j1, up_n _ _ (by decide), cp4 _ (by omega)]; decide
    · intro j j0 j1; rw [eh j j0 j1, eg j j0 j1]; exact ⟨fun f hf => (up_n _ _ hf).symm, fun z => absurd z (by decide)⟩
theorem o_set {M ti so go : Int} {g h S : Int → Int → Int} {i what v x y : Int} {S1 S2 : Int → Int → Int} (H : ILn M ti so go S g h) (a : sp_set M g S i what v x S1) (b : sp_set M h S i what v y S2) : (x = y ∧ S1 = S2) ∧ ILn M ti so go S1 g h := by
  unfold sp_set at a b
  by_cases q : ¬ ((0 ≤ i ∧ i < M) ∧ ((0 ≤ what ∧ what ≤ 3) ∧ mLo what ≤ v ∧ v ≤ mHi what) ∧ ¬ (what = 3 ∧ i = M - 1))
  · rw [if_pos q] at a b
    obtain ⟨rfl, rfl⟩ := a
    obtain ⟨rfl, rfl⟩ := b
    exact ⟨⟨rfl, rfl⟩, H⟩
  · rw [if_neg q] at a b
    have q := Classical.not_not.mp q
    obtain ⟨H1, H2, H3, H4, H5, H6, H7, H8, H9⟩ := id H
    have hi : 0 ≤ i ∧ i < 6 := by omega
    have e : g i 0 = h i 0 := (H9 i hi.1 hi.2).1 0 (by omega)
    rw [← e] at b
    by_cases q2 : what = 3 ∧ v < g i 0
    · rw [if_pos q2] at a b
      obtain ⟨rfl, rfl⟩ := a
      obtain ⟨rfl, rfl⟩ := b
      exact ⟨⟨rfl, rfl⟩, H⟩
    · rw [if_neg q2] at a b
      obtain ⟨rfl, rfl⟩ := a
      obtain ⟨rfl, rfl⟩ := b
      refine ⟨⟨rfl, rfl⟩, H1, H2, H3, H4, fun j j0 j1 => ?_, H6, H7, fun j j0 j1 => ?_, H9⟩
      · show sOk (ug S i (up (S i) what v) j)
        unfold ug
        by_cases z : j = i
        · rw [if_pos z]
          have hs := H5 i hi.1 hi.2
          obtain ⟨-, ⟨w1, w2, w3⟩, -⟩ := q
          unfold sOk at *
          rcases (show what = 0 ∨ what = 1 ∨ what = 2 ∨ what = 3 by omega) with rfl | rfl | rfl | rfl
          · have m1 : mLo 0 = 1 := by decide
            have m2 : mHi 0 = 5 := by decide
            rw [up_s, up_n _ _ (show (1:Int) ≠ 0 by decide), up_n _ _ (show (2:Int) ≠ 0 by decide), up_n _ _ (show (3:Int) ≠ 0 by decide)]; omega
          · have m1 : mLo 1 = 0 := by decide
            have m2 : mHi 1 = 99 := by decide
            rw [up_s, up_n _ _ (show (0:Int) ≠ 1 by decide), up_n _ _ (show (2:Int) ≠ 1 by decide), up_n _ _ (show (3:Int) ≠ 1 by decide)]; omega
          · have m1 : mLo 2 = 0 := by decide
            have m2 : mHi 2 = 99 := by decide
            rw [up_s, up_n _ _ (show (0:Int) ≠ 2 by decide), up_n _ _ (show (1:Int) ≠ 2 by decide), up_n _ _ (show (3:Int) ≠ 2 by decide)]; omega
          · have m1 : mLo 3 = 1 := by decide
            have m2 : mHi 3 = 20 := by decide
            rw [up_s, up_n _ _ (show (0:Int) ≠ 3 by decide), up_n _ _ (show (1:Int) ≠ 3 by decide), up_n _ _ (show (2:Int) ≠ 3 by decide)]; omega
        · rw [if_neg z]; exact H5 j j0 j1
      · show h j 0 ≤ ug S i (up (S i) what v) j 3
        have h8 := H8 j j0 j1
        unfold ug
        by_cases z : j = i
        · rw [if_pos z]
          unfold up
          by_cases w : (3 : Int) = what
          · rw [if_pos w, z, ← e]; omega
          · rw [if_neg w, ← z]; exact h8
        · rw [if_neg z]; exact h8
theorem o_fault {M ti nf : Int} {fm fa fb : Int → Int} {i a b x nf1 y nf2 : Int} {fm1 fa1 fb1 fm2 fa2 fb2 : Int → Int} (hM : 2 ≤ M ∧ M ≤ 6) (hf : IFt nf fm fa fb) (p : sp_fault M ti nf fm fa fb i a b x nf1 fm1 fa1 fb1) (q : sp_fault M ti nf fm fa fb i a b y nf2 fm2 fa2 fb2) : (x = y ∧ nf1 = nf2 ∧ fm1 = fm2 ∧ fa1 = fa2 ∧ fb1 = fb2) ∧ IFt nf1 fm1 fa1 fb1 := by
  unfold sp_fault at p q
  by_cases q0 : ¬ ((0 ≤ i ∧ i < M) ∧ 0 ≤ a ∧ a ≤ b ∧ b ≤ 9999)
  · rw [if_pos q0] at p q
    obtain ⟨rfl, rfl, rfl, rfl, rfl⟩ := p
    obtain ⟨rfl, rfl, rfl, rfl, rfl⟩ := q
    exact ⟨⟨rfl, rfl, rfl, rfl, rfl⟩, hf⟩
  · rw [if_neg q0] at p q
    by_cases q1 : a < ti
    · rw [if_pos q1] at p q
      obtain ⟨rfl, rfl, rfl, rfl, rfl⟩ := p
      obtain ⟨rfl, rfl, rfl, rfl, rfl⟩ := q
      exact ⟨⟨rfl, rfl, rfl, rfl, rfl⟩, hf⟩
    · rw [if_neg q1] at p q
      unfold sFault at p q
      by_cases q2 : 8 ≤ nf
      · rw [if_pos q2] at p q
        obtain ⟨rfl, rfl, rfl, rfl, rfl⟩ := p
        obtain ⟨rfl, rfl, rfl, rfl, rfl⟩ := q
        exact ⟨⟨rfl, rfl, rfl, rfl, rfl⟩, hf⟩
      · rw [if_neg q2] at p q
        obtain ⟨rfl, rfl, rfl, rfl, rfl⟩ := p
        obtain ⟨rfl, rfl, rfl, rfl, rfl⟩ := q
        obtain ⟨f1, f2, f3, f4⟩ := hf
        refine ⟨⟨rfl, rfl, rfl, rfl, rfl⟩, by omega, fun k => ?_, fun k => ?_, fun k => ?_⟩
        · have := f2 k; unfold up; split <;> omega
        · have := f3 k; unfold up; split <;> omega
        · have := f4 k; unfold up; split <;> omega
theorem o_supply {M ti so go : Int} {g h S : Int → Int → Int} {n x so1 y so2 : Int} (H : ILn M ti so go S g h) (a : sp_supply so n x so1) (b : sp_supply so n y so2) : (x = y ∧ so1 = so2) ∧ ILn M ti so1 go S g h := by
  unfold sp_supply at a b
  by_cases q : ¬ (1 ≤ n ∧ n ≤ 1000)
  · rw [if_pos q] at a b
    obtain ⟨rfl, rfl⟩ := a
    obtain ⟨rfl, rfl⟩ := b
    exact ⟨⟨rfl, rfl⟩, H⟩
  · rw [if_neg q] at a b
    by_cases q2 : 100000 < so + n
    · rw [if_pos q2] at a b
      obtain ⟨rfl, rfl⟩ := a
      obtain ⟨rfl, rfl⟩ := b
      exact ⟨⟨rfl, rfl⟩, H⟩
    · rw [if_neg q2] at a b
      obtain ⟨rfl, rfl⟩ := a
      obtain ⟨rfl, rfl⟩ := b
      obtain ⟨H1, H2, H3, H4⟩ := H
      exact ⟨⟨rfl, rfl⟩, H1, H2, by omega, H4⟩
theorem o_lot {lo v x lo1 y lo2 : Int} {ru sn : Int → Int} (H : IRu lo ru sn) (a : sp_lot lo v x lo1) (b : sp_lot lo v y lo2) : (x = y ∧ lo1 = lo2) ∧ IRu lo1 ru sn := by
  unfold sp_lot at a b
  by_cases q : ¬ (0 ≤ v ∧ v ≤ 15)
  · rw [if_pos q] at a b
    obtain ⟨rfl, rfl⟩ := a
    obtain ⟨rfl, rfl⟩ := b
    exact ⟨⟨rfl, rfl⟩, H⟩
  · rw [if_neg q] at a b
    obtain ⟨rfl, rfl⟩ := a
    obtain ⟨rfl, rfl⟩ := b
    exact ⟨⟨rfl, rfl⟩, by omega, H.2⟩
theorem o_ticks {M ti so ta go sl lo nf cn n x y : Int} {g h S : Int → Int → Int} {fm fa fb ld bo lt wg cl pl se un on : Int → Int} {g1 : Int → Int → Int} {so1 ta1 go1 sl1 : Int} {ld1 : Int → Int} {ti1 cn1 : Int} {bo1 lt1 wg1 : Int → Int} {h1 : Int → Int → Int} {so2 ta2 go2 sl2 : Int} {ld2 : Int → Int} {ti2 cn2 : Int} {bo2 lt2 wg2 : Int → Int}
    (H : ILn M ti so go S g h) (hC : ICd cn bo lt wg cl pl se un on) (a : sp_ticks M lo nf fm fa fb S n ti x (g, so, ta, go, sl, ld, ti, cn, bo, lt, wg) (g1, so1, ta1, go1, sl1, ld1, ti1, cn1, bo1, lt1, wg1)) (b : sp_ticks M lo nf fm fa fb S n ti y (h, so, ta, go, sl, ld, ti, cn, bo, lt, wg) (h1, so2, ta2, go2, sl2, ld2, ti2, cn2, bo2, lt2, wg2))
    (a2 : (∀ j, 0 ≤ j → j < 6 → kOk ti1 (g1 j)) ∧ (0 ≤ so1 ∧ so1 ≤ 100000) ∧ (0 ≤ go1 ∧ go1 ≤ ti1) ∧ (0 ≤ ti1 ∧ ti1 ≤ 10000) ∧ (0 ≤ cn1 ∧ cn1 ≤ 200) ∧ (∀ k, -4 ≤ bo1 k ∧ bo1 k ≤ 29) ∧ (∀ k, 0 ≤ lt1 k ∧ lt1 k ≤ 15) ∧ (∀ k, -4 ≤ wg1 k ∧ wg1 k ≤ 10000))
    (b2 : (∀ j, 0 ≤ j → j < 6 → kOk ti2 (h1 j)) ∧ (∀ j, 0 ≤ j → j < 6 → h1 j 0 ≤ S j 3) ∧ (0 ≤ so2 ∧ so2 ≤ 100000) ∧ (0 ≤ go2 ∧ go2 ≤ ti2) ∧ (0 ≤ ti2 ∧ ti2 ≤ 10000) ∧ (0 ≤ cn2 ∧ cn2 ≤ 200)) :
    (x = y ∧ so1 = so2 ∧ ta1 = ta2 ∧ go1 = go2 ∧ sl1 = sl2 ∧ ld1 = ld2 ∧ ti1 = ti2 ∧ cn1 = cn2 ∧ bo1 = bo2 ∧ lt1 = lt2 ∧ wg1 = wg2) ∧ ILn M ti1 so1 go1 S g1 h1 ∧ ICd cn1 bo1 lt1 wg1 cl pl se un on := by
  obtain ⟨H1, H2, H3, H4, H5, H6, H7, H8, H9⟩ := H
  obtain ⟨C1, C2, C3, C4, C5, C6, C7, C8, C9, C10, C11⟩ := hC
  unfold sp_ticks at a b
  by_cases q : ¬ (1 ≤ n ∧ n ≤ 500)
  · rw [if_pos q] at a b
    obtain ⟨rfl, e⟩ := a
    obtain ⟨rfl, f⟩ := b
    simp only [Prod.mk.injEq] at e f
    obtain ⟨rfl, rfl, rfl, rfl, rfl, rfl, rfl, rfl, rfl, rfl, rfl⟩ := e
    obtain ⟨rfl, rfl, rfl, rfl, rfl, rfl, rfl, rfl, rfl, rfl, rfl⟩ := f
    exact ⟨⟨rfl, rfl, rfl, rfl, rfl, rfl, rfl, rfl, rfl, rfl, rfl⟩, ⟨H1, H2, H3, H4, H5, H6, H7, H8, H9⟩, C1, C2, C3, C4, C5, C6, C7, C8, C9, C10, C11⟩
  · rw [if_neg q] at a b
    by_cases q2 : 10000 < ti + n
    · rw [if_pos q2] at a b
      obtain ⟨rfl, e⟩ := a
      obtain ⟨rfl, f⟩ := b
      simp only [Prod.mk.injEq] at e f
      obtain ⟨rfl, rfl, rfl, rfl, rfl, rfl, rfl, rfl, rfl, rfl, rfl⟩ := e
      obtain ⟨rfl, rfl, rfl, rfl, rfl, rfl, rfl, rfl, rfl, rfl, rfl⟩ := f
      exact ⟨⟨rfl, rfl, rfl, rfl, rfl, rfl, rfl, rfl, rfl, rfl, rfl⟩, ⟨H1, H2, H3, H4, H5, H6, H7, H8, H9⟩, C1, C2, C3, C4, C5, C6, C7, C8, C9, C10, C11⟩
    · rw [if_neg q2] at a b
      obtain ⟨rfl, a⟩ := a
      obtain ⟨rfl, b⟩ := b
      obtain ⟨e1, e2, e3⟩ := sTicks_c H1 n.toNat a b ⟨H9, fun j j0 j1 => (kOk_b (H6 j j0 j1)).2.2, rfl⟩
      have K := sTicks_k n.toNat (un := un) a ⟨C1.1, C2, C4, C10⟩
      simp only [Prod.mk.injEq] at e3
      obtain ⟨rfl, rfl, rfl, rfl, rfl, rfl, rfl, rfl, rfl, rfl⟩ := e3
      obtain ⟨K1, K2, K3, K4⟩ := K
      exact ⟨⟨rfl, rfl, rfl, rfl, rfl, rfl, rfl, rfl, rfl, rfl, rfl⟩, ⟨H1, a2.2.2.2.1, a2.2.1, a2.2.2.1, H5, a2.1, b2.1, b2.2.1, e1⟩, a2.2.2.2.2.1, K2, a2.2.2.2.2.2.2.1, K3, C5, C6, C7, C8, C9, K4, C11⟩
theorem o_confirm {M ti so go : Int} {g h S : Int → Int → Int} {i x y : Int} {g1 h1 : Int → Int → Int} (H : ILn M ti so go S g h) (a : sp_confirm M g i x g1) (b : sp_confirm M h i y h1) : x = y ∧ ILn M ti so go S g1 h1 := by
  unfold sp_confirm at a b
  by_cases q : 0 ≤ i ∧ i < M
  · rw [if_pos q] at a b
    obtain ⟨rfl, rfl⟩ := a
    obtain ⟨rfl, rfl⟩ := b
    obtain ⟨H1, H2, H3, H4, H5, H6, H7, H8, H9⟩ := H
    have hE := H9 i q.1 (by omega)
    refine ⟨hE.1 7 (by omega), H1, H2, H3, H4, H5, fun j j0 j1 => ?_, fun j j0 j1 => ?_, fun j j0 j1 => ?_, ug_E H9 (cE_70 hE)⟩
    · unfold ug
      by_cases z : j = i
      · rw [if_pos z]; exact kOk_7 (H6 i q.1 (by omega)) H2.1
      · rw [if_neg z]; exact H6 j j0 j1
    · unfold ug
      by_cases z : j = i
      · rw [if_pos z]; exact kOk_7 (H7 i q.1 (by omega)) H2.1
      · rw [if_neg z]; exact H7 j j0 j1
    · unfold ug
      by_cases z : j = i
      · rw [if_pos z, up_n _ _ (by decide), ← z]; exact H8 j j0 j1
      · rw [if_neg z]; exact H8 j j0 j1
  · rw [if_neg q] at a b
    obtain ⟨rfl, rfl⟩ := a
    obtain ⟨rfl, rfl⟩ := b
    exact ⟨rfl, H⟩
theorem o_about {M ti so go : Int} {g h S : Int → Int → Int} {i what : Int} (H : ILn M ti so go S g h) : f_about M h i what = f_about M g i what := by
  unfold f_about
  by_cases q : ¬ ((0 ≤ i ∧ i < M) ∧ 0 ≤ what ∧ what ≤ 7)
  · rw [if_pos q, if_pos q]
  · have q1 := Classical.not_not.mp q
    obtain ⟨H1, H2, H3, H4, H5, H6, H7, H8, H9⟩ := H
    have e := (H9 i q1.1.1 (by omega)).1
    rw [if_neg q, if_neg q, e 9 (by omega), e 4 (by omega), e 5 (by omega), e 6 (by omega), e 1 (by omega), e 2 (by omega), e 0 (by omega), e 7 (by omega), e 10 (by omega)]
theorem sm_c {f f' : Int → Int} : ∀ (n : Nat), (∀ k : Int, 0 ≤ k → k < n → f k = f' k) → sm f n = sm f' n
  | 0, _ => rfl
  | n + 1, e => by
    show sm f n + f n = sm f' n + f' n
    rw [sm_c n (fun k a b => e k a (by omega)), e n (by omega) (by omega)]
theorem sI_c {f f' : Int → Int} {n : Int} (e : ∀ k, 0 ≤ k → k < n → f k = f' k) : sI f n = sI f' n := sm_c n.toNat (fun k a b => e k a (by omega))
theorem o_book {M ti so ta go sl : Int} {g h S : Int → Int → Int} {what : Int} (H : ILn M ti so go S g h) : f_book M ti so ta go sl h what = f_book M ti so ta go sl g what := by
  obtain ⟨H1, H2, H3, H4, H5, H6, H7, H8, H9⟩ := H
  unfold f_book
  rw [sI_c (f := fun j => h j 5) (f' := fun j => g j 5) (fun k a b => ((H9 k a (by omega)).1 5 (by omega)).symm), sI_c (f := fun j => h j 6) (f' := fun j => g j 6) (fun k a b => ((H9 k a (by omega)).1 6 (by omega)).symm), sI_c (f := oF h) (f' := oF g) (fun k a b => by
    have e := (H9 k a (by omega)).1
    unfold oF
    rw [e 1 (by omega), e 2 (by omega), e 0 (by omega)])]
theorem o_rule {lo : Int} {un on ru sn : Int → Int} {what v x y : Int} {ru1 ru2 : Int → Int} (H : IRu lo ru sn) (a : sp_rule un on ru what v x ru1) (b : sp_rule un on ru what v y ru2) : (x = y ∧ ru1 = ru2) ∧ IRu lo ru1 sn := by
  unfold sp_rule at a b
  rcases a with ⟨a1, rfl, rfl⟩ | ⟨a1, a2, rfl, rfl⟩ | ⟨a1, a2, a3, rfl, rfl⟩
  · rcases b with ⟨b1, rfl, rfl⟩ | ⟨b1, b2, rfl, rfl⟩ | ⟨b1, b2, b3, rfl, rfl⟩
    · exact ⟨⟨rfl, rfl⟩, H⟩
    · exact absurd b1 a1
    · exact absurd b1 a1
  · rcases b with ⟨b1, rfl, rfl⟩ | ⟨b1, b2, rfl, rfl⟩ | ⟨b1, b2, b3, rfl, rfl⟩
    · exact absurd a1 b1
    · exact ⟨⟨rfl, rfl⟩, H⟩
    · rcases a2 with ⟨z, c, c0, c1, c2⟩ | ⟨z, c, c0, c1, c2⟩
      · have := b2 z c c0 c1; omega
      · have := b3 z c c0 c1; omega
  · rcases b with ⟨b1, rfl, rfl⟩ | ⟨b1, b2, rfl, rfl⟩ | ⟨b1, b2, b3, rfl, rfl⟩
    · exact absurd a1 b1
    · rcases b2 with ⟨z, c, c0, c1, c2⟩ | ⟨z, c, c0, c1, c2⟩
      · have := a2 z c c0 c1; omega
      · have := a3 z c c0 c1; omega
    · refine ⟨⟨rfl, rfl⟩, H.1, ?_, H.2.2⟩
      obtain ⟨-, h, -⟩ := H
      unfold hruP at *
      unfold ruLo ruHi at a1
      rcases (show what = 0 ∨ what = 1 ∨ what = 2 ∨ what = 3 ∨ what = 4 ∨ what = 5 by omega) with rfl | rfl | rfl | rfl | rfl | rfl
      all_goals (unfold up; simp only [Int.reduceEq, if_true, if_false, ↓reduceIte, Int.reduceLT] at *; omega)

end LAW1
