section LAW0
/-- the machines' numbers of both sides: alike but for the oldest reject where none waits -/
def cE (c d : Int → Int) : Prop := (∀ f, f ≠ 8 → c f = d f) ∧ (0 < c 7 → c 8 = d 8)
theorem cE_rf (c : Int → Int) : cE c c := ⟨fun _ _ => rfl, fun _ => rfl⟩
theorem cE_up {c d : Int → Int} (h : cE c d) {f v w : Int} (h7 : f ≠ 7) (h8 : f ≠ 8) (hv : v = w) : cE (up c f v) (up d f w) := by
  subst hv
  refine ⟨fun k hk => ?_, fun q => ?_⟩
  · unfold up
    by_cases e : k = f
    · rw [if_pos e, if_pos e]
    · rw [if_neg e, if_neg e]; exact h.1 k hk
  · rw [up_n _ _ (Ne.symm h7)] at q
    rw [up_n _ _ (Ne.symm h8), up_n _ _ (Ne.symm h8)]
    exact h.2 q
theorem cE_78 {c d : Int → Int} (h : cE c d) {a b v w : Int} (ha : a = b) (hv : v = w) : cE (up (up c 8 a) 7 v) (up (up d 8 b) 7 w) := by
  subst ha hv
  refine ⟨fun k hk => ?_, fun q => ?_⟩
  · by_cases e : k = 7
    · rw [e, up_s, up_s]
    · rw [up_n _ _ e, up_n _ _ e, up_n _ _ hk, up_n _ _ hk]; exact h.1 k hk
  · rw [up_n _ _ (by omega), up_s, up_n _ _ (by omega), up_s]
theorem cE_70 {c d : Int → Int} (h : cE c d) : cE (up c 7 0) (up d 7 0) := by
  refine ⟨fun k hk => ?_, fun q => ?_⟩
  · by_cases e : k = 7
    · rw [e, up_s, up_s]
    · rw [up_n _ _ e, up_n _ _ e]; exact h.1 k hk
  · rw [up_s] at q; omega
theorem cE_if {p : Prop} [Decidable p] {a b c d : Int → Int} (h1 : p → cE a c) (h2 : ¬ p → cE b d) : cE (if p then a else b) (if p then c else d) := by
  by_cases q : p
  · rw [if_pos q, if_pos q]; exact h1 q
  · rw [if_neg q, if_neg q]; exact h2 q
theorem give1_c {c d : Int → Int} (h : cE c d) : cE (give1 c) (give1 d) := by
  unfold give1
  rw [← h.1 2 (by omega)]
  exact cE_if (fun _ => cE_up (cE_up h (by omega) (by omega) (by rw [h.1 0 (by omega)])) (by omega) (by omega) rfl) (fun _ => h)
theorem work1_c {c d : Int → Int} (h : cE c d) : cE (work1 c) (work1 d) := by
  unfold work1
  rw [← h.1 1 (by omega)]
  refine cE_up ?_ (by omega) (by omega) (by rw [h.1 3 (by omega)])
  exact cE_if (fun _ => cE_up (give1_c h) (by omega) (by omega) rfl) (fun _ => give1_c h)
theorem give1_7 (c : Int → Int) : give1 c 7 = c 7 := by
  unfold give1
  split
  · rw [up_n _ _ (by omega), up_n _ _ (by omega)]
  · rfl
theorem work1_7 (c : Int → Int) : work1 c 7 = c 7 := by
  unfold work1
  rw [up_n _ _ (by omega)]
  split
  · rw [up_n _ _ (by omega), give1_7]
  · exact give1_7 c
theorem sEnd_c {n M ti : Int} {s d e c1 c2 : Int → Int} {g1 g2 : Int} (h : sEnd n M ti s d c1 g1) (k : sEnd n M ti s e c2 g2) (hE : cE d e) (h7 : 0 ≤ d 7) : g1 = g2 ∧ cE c1 c2 ∧ 0 ≤ c1 7 := by
  have e4 := hE.1 4 (by omega)
  have e5 := hE.1 5 (by omega)
  have e6 := hE.1 6 (by omega)
  have e7 := hE.1 7 (by omega)
  have b4 : cE (up (up (up d 1 0) 3 0) 4 (d 4 + 1)) (up (up (up e 1 0) 3 0) 4 (e 4 + 1)) := cE_up (cE_up (cE_up hE (by omega) (by omega) rfl) (by omega) (by omega) rfl) (by omega) (by omega) (by rw [e4])
  have n4 : (up (up (up d 1 0) 3 0) 4 (d 4 + 1)) 7 = d 7 := by rw [up_n _ _ (by omega), up_n _ _ (by omega), up_n _ _ (by omega)]
  unfold sEnd at h k
  rw [← e4] at k
  by_cases q1 : s 1 ≠ 0 ∧ rmI (d 4 + 1) (s 1) = 0
  · rw [if_pos q1] at h k
    obtain ⟨rfl, rfl⟩ := h
    obtain ⟨rfl, rfl⟩ := k
    refine ⟨rfl, ?_, by rw [up_s]; omega⟩
    rw [← e4] at b4
    refine cE_78 (cE_up b4 (by omega) (by omega) (by rw [e5])) ?_ (by rw [e7])
    rw [← e7]
    by_cases z : d 7 = 0
    · rw [if_pos z, if_pos z]
    · rw [if_neg z, if_neg z]; exact hE.2 (by omega)
  · rw [if_neg q1] at h k
    by_cases q2 : s 2 ≠ 0 ∧ rmI (d 4 + 1) (s 2) = 0
    · rw [if_pos q2] at h k
      obtain ⟨rfl, rfl⟩ := h
      obtain ⟨rfl, rfl⟩ := k
      rw [← e4] at b4
      exact ⟨rfl, cE_up b4 (by omega) (by omega) (by rw [e6]), by rw [up_n _ _ (by omega), n4]; exact h7⟩
    · rw [if_neg q2] at h k
      by_cases q3 : n = M - 1
      · rw [if_pos q3] at h k
        obtain ⟨rfl, rfl⟩ := h
        obtain ⟨rfl, rfl⟩ := k
        rw [← e4] at b4
        exact ⟨rfl, b4, by rw [n4]; exact h7⟩
      · rw [if_neg q3] at h k
        obtain ⟨rfl, rfl⟩ := h
        obtain ⟨rfl, rfl⟩ := k
        rw [← e4] at b4
        exact ⟨rfl, cE_up b4 (by omega) (by omega) rfl, by rw [up_n _ _ (by omega), n4]; exact h7⟩
theorem sStep_c {flt : Bool} {n M ti av : Int} {s c d : Int → Int} {x y : Int} {c1 c2 : Int → Int} {t1 t2 g1 g2 : Int} (h : sStep flt n M ti av s c x c1 t1 g1) (k : sStep flt n M ti av s d y c2 t2 g2) (hE : cE c d) (h7 : 0 ≤ c 7) : x = y ∧ t1 = t2 ∧ g1 = g2 ∧ cE c1 c2 ∧ 0 ≤ c1 7 := by
  have e0 := hE.1 0 (by omega)
  have e1 := hE.1 1 (by omega)
  have e2 := hE.1 2 (by omega)
  have e7 := hE.1 7 (by omega)
  unfold sStep at h k
  rw [← e0, ← e1, ← e2, ← e7] at k
  by_cases q0 : flt = true
  · rw [if_pos q0] at h k
    obtain ⟨rfl, rfl, rfl, rfl⟩ := h
    obtain ⟨rfl, rfl, rfl, rfl⟩ := k
    exact ⟨rfl, rfl, rfl, hE, h7⟩
  · rw [if_neg q0] at h k
    by_cases q1 : 0 < c 7 ∧ 3 ≤ ti - c 8
    · have q1' : 0 < c 7 ∧ 3 ≤ ti - d 8 := by rw [← hE.2 q1.1]; exact q1
      rw [if_pos q1] at h
      rw [if_pos q1'] at k
      obtain ⟨rfl, rfl, rfl, rfl⟩ := h
      obtain ⟨rfl, rfl, rfl, rfl⟩ := k
      exact ⟨rfl, rfl, rfl, hE, h7⟩
    · have q1' : ¬ (0 < c 7 ∧ 3 ≤ ti - d 8) := fun z => q1 (by rw [hE.2 z.1]; exact z)
      rw [if_neg q1] at h
      rw [if_neg q1'] at k
      by_cases q2 : c 2 ≠ 0 ∧ ¬ c 0 < s 3
      · rw [if_pos q2] at h k
        obtain ⟨rfl, rfl, rfl, rfl⟩ := h
        obtain ⟨rfl, rfl, rfl, rfl⟩ := k
        exact ⟨rfl, rfl, rfl, hE, h7⟩
      · rw [if_neg q2] at h k
        by_cases q3 : c 1 = 0 ∧ av = 0
        · rw [if_pos q3] at h k
          obtain ⟨rfl, rfl, rfl, rfl⟩ := h
          obtain ⟨rfl, rfl, rfl, rfl⟩ := k
          exact ⟨rfl, rfl, rfl, give1_c hE, by rw [give1_7]; exact h7⟩
        · rw [if_neg q3] at h k
          obtain ⟨rfl, rfl, h⟩ := h
          obtain ⟨rfl, rfl, k⟩ := k
          have hw := work1_c hE
          have w7 := work1_7 c
          unfold sFin at h k
          rw [← hw.1 3 (by omega)] at k
          by_cases q4 : work1 c 3 < s 0
          · rw [if_pos q4] at h k
            obtain ⟨rfl, rfl⟩ := h
            obtain ⟨rfl, rfl⟩ := k
            exact ⟨rfl, rfl, rfl, hw, by rw [w7]; exact h7⟩
          · rw [if_neg q4] at h k
            have := sEnd_c h k hw (by rw [w7]; exact h7)
            exact ⟨rfl, rfl, this.1, this.2.1, this.2.2⟩
def gE (g h : Int → Int → Int) : Prop := ∀ j, 0 ≤ j → j < 6 → cE (g j) (h j)
def gN (g : Int → Int → Int) : Prop := ∀ j, 0 ≤ j → j < 6 → 0 ≤ g j 7
theorem finM_c {c d : Int → Int} {x : Int} (h : cE c d) : cE (finM x c) (finM x d) := by
  unfold finM
  exact cE_if (fun _ => cE_up (cE_up h (by omega) (by omega) rfl) (by omega) (by omega) (by rw [h.1 10 (by omega)])) (fun _ => cE_up h (by omega) (by omega) rfl)
theorem finM_7 (c : Int → Int) (x : Int) : finM x c 7 = c 7 := by
  unfold finM
  split
  · rw [up_n _ _ (by omega), up_n _ _ (by omega)]
  · rw [up_n _ _ (by omega)]
theorem ug_E {g h : Int → Int → Int} {k : Int} {c d : Int → Int} (H : gE g h) (hc : cE c d) : gE (ug g k c) (ug h k d) := fun j j0 j1 => by
  unfold ug
  by_cases e : j = k
  · rw [if_pos e, if_pos e]; exact hc
  · rw [if_neg e, if_neg e]; exact H j j0 j1
theorem ug_N {g : Int → Int → Int} {k : Int} {c : Int → Int} (H : gN g) (hc : 0 ≤ c 7) : gN (ug g k c) := fun j j0 j1 => by
  unfold ug
  by_cases e : j = k
  · rw [if_pos e]; exact hc
  · rw [if_neg e]; exact H j j0 j1
theorem sPass_c {F : Int → Bool} {M ti : Int} {S : Int → Int → Int} : ∀ (k : Nat) {g h : Int → Int → Int} {so ta go : Int} {g1 : Int → Int → Int} {so1 ta1 go1 : Int} {h1 : Int → Int → Int} {so2 ta2 go2 : Int}, (k : Int) ≤ 6 → sPass F M ti S k g so ta go g1 so1 ta1 go1 → sPass F M ti S k h so ta go h1 so2 ta2 go2 → gE g h → gN g → so1 = so2 ∧ ta1 = ta2 ∧ go1 = go2 ∧ gE g1 h1 ∧ gN g1
  | 0, g, h, so, ta, go, g1, so1, ta1, go1, h1, so2, ta2, go2, hk, H, K, hE, hN => by
    obtain ⟨rfl, rfl, rfl, rfl⟩ := H
    obtain ⟨rfl, rfl, rfl, rfl⟩ := K
    exact ⟨rfl, rfl, rfl, hE, hN⟩
  | k + 1, g, h, so, ta, go, g1, so1, ta1, go1, h1, so2, ta2, go2, hk, H, K, hE, hN => by
    obtain ⟨x, c1, t1, d1, H1, H2⟩ := H
    obtain ⟨y, c2, t2, d2, K1, K2⟩ := K
    have hav : (if (k : Int) = 0 then so else h ((k : Int) - 1) 0) = (if (k : Int) = 0 then so else g ((k : Int) - 1) 0) := by
      by_cases z : (k : Int) = 0
      · rw [if_pos z, if_pos z]
      · rw [if_neg z, if_neg z]; exact ((hE _ (by omega) (by omega)).1 0 (by omega)).symm
    rw [hav] at K1
    obtain ⟨rfl, rfl, rfl, q4, q5⟩ := sStep_c H1 K1 (hE _ (by omega) (by omega)) (hN _ (by omega) (by omega))
    refine sPass_c k (by omega) H2 K2 ?_ ?_
    · by_cases z : (k : Int) = 0
      · rw [if_pos z, if_pos z]; exact ug_E hE (finM_c q4)
      · rw [if_neg z, if_neg z]
        refine ug_E (ug_E hE (finM_c q4)) ?_
        have hg := hE ((k : Int) - 1) (by omega) (by omega)
        unfold gapM
        exact cE_up hg (by omega) (by omega) (by rw [hg.1 0 (by omega)])
    · by_cases z : (k : Int) = 0
      · rw [if_pos z]; exact ug_N hN (by rw [finM_7]; exact q5)
      · rw [if_neg z]
        refine ug_N (ug_N hN (by rw [finM_7]; exact q5)) ?_
        unfold gapM
        rw [up_n _ _ (by omega)]
        exact hN _ (by omega) (by omega)
theorem cau_c {g h : Int → Int → Int} : ∀ (n : Nat), (∀ j : Int, 0 ≤ j → j < n → g j 9 = h j 9) → cau g n = cau h n
  | 0, _ => rfl
  | n + 1, e => by
    have ih := cau_c n (fun j a b => e j a (by omega))
    show (if g (n : Int) 9 = 4 then cau g n else if g (n : Int) 9 = 3 then 6 else (n : Int)) = (if h (n : Int) 9 = 4 then cau h n else if h (n : Int) 9 = 3 then 6 else (n : Int))
    rw [e n (by omega) (by omega), ih]
theorem sLay_c {M : Int} {g h : Int → Int → Int} {sl : Int} {ld : Int → Int} {sl1 sl2 : Int} {ld1 ld2 : Int → Int} (hM : 2 ≤ M ∧ M ≤ 6) (H : sLay M g sl ld sl1 ld1) (K : sLay M h sl ld sl2 ld2) (hE : gE g h) : sl1 = sl2 ∧ ld1 = ld2 := by
  unfold sLay at H K
  rw [← (hE (M - 1) (by omega) (by omega)).1 9 (by omega), ← cau_c M.toNat (fun j a b => (hE j a (by omega)).1 9 (by omega))] at K
  by_cases q : g (M - 1) 9 = 3
  · rw [if_pos q] at H K
    exact ⟨H.1.trans K.1.symm, H.2.trans K.2.symm⟩
  · rw [if_neg q] at H K
    exact ⟨H.1.trans K.1.symm, H.2.trans K.2.symm⟩
def lsE (s r : LSt) : Prop := gE s.1 r.1 ∧ gN s.1 ∧ s.2 = r.2
theorem sTick_c {M lo nf : Int} {fm fa fb : Int → Int} {S : Int → Int → Int} {s r s1 r1 : LSt} (hM : 2 ≤ M ∧ M ≤ 6) (H : sTick M lo nf fm fa fb S s s1) (K : sTick M lo nf fm fa fb S r r1) (hE : lsE s r) : lsE s1 r1 := by
  obtain ⟨g, so, ta, go, sl, ld, ti, cn, bo, lt, wg⟩ := s
  obtain ⟨h, so', ta', go', sl', ld', ti', cn', bo', lt', wg'⟩ := r
  obtain ⟨g1, so1, ta1, go1, sl1, ld1, ti1, cn1, bo1, lt1, wg1⟩ := s1
  obtain ⟨h1, so2, ta2, go2, sl2, ld2, ti2, cn2, bo2, lt2, wg2⟩ := r1
  obtain ⟨e1, e2, e3⟩ := hE
  cases e3
  obtain ⟨H1, H2, H3, H4, H5, H6, H7⟩ := H
  obtain ⟨K1, K2, K3, K4, K5, K6, K7⟩ := K
  obtain ⟨rfl, rfl, rfl, q4, q5⟩ := sPass_c M.toNat (by omega) H1 K1 e1 e2
  obtain ⟨rfl, rfl⟩ := sLay_c hM H2 K2 q4
  rw [← H3] at K3; rw [← H4] at K4; rw [← H5] at K5; rw [← H6] at K6; rw [← H7] at K7
  subst K3 K4 K5 K6 K7
  exact ⟨q4, q5, rfl⟩
theorem sTicks_c {M lo nf : Int} {fm fa fb : Int → Int} {S : Int → Int → Int} (hM : 2 ≤ M ∧ M ≤ 6) : ∀ (n : Nat) {s r s1 r1 : LSt}, sTicks M lo nf fm fa fb S n s s1 → sTicks M lo nf fm fa fb S n r r1 → lsE s r → lsE s1 r1
  | 0, s, r, s1, r1, H, K, hE => by
    have e1 : s1 = s := H
    have e2 : r1 = r := K
    rw [e1, e2]; exact hE
  | n + 1, s, r, s1, r1, H, K, hE => by
    obtain ⟨s2, H1, H2⟩ := H
    obtain ⟨r2, K1, K2⟩ := K
    exact sTicks_c hM n H2 K2 (sTick_c hM H1 K1 hE)
/-- what the codes keep through ticks -/
def cdK (un : Int → Int) (s : LSt) : Prop := match s with
  | (_, _, _, _, _, _, _, cn, bo, _, wg) => 0 ≤ cn ∧ (∀ k, (bo k = -4 ∨ 0 ≤ bo k) ∧ bo k ≤ 29) ∧ (∀ k, (wg k = -4 ∨ 0 ≤ wg k) ∧ wg k ≤ 10000) ∧ ∀ c, 0 ≤ c → c < 30 → un c = ctI bo cn c
theorem ctI_add {bo : Int → Int} {cn c : Int} (h0 : 0 ≤ cn) (hc : 0 ≤ c) : ctI (up bo cn (-4)) (cn + 1) c = ctI bo cn c := by
  have e := ct_up bo cn (-4) c cn.toNat
  unfold ctI
  rw [sI_s _ h0]
  have e2 : sI (fun k => if up bo cn (-4) k = c then 1 else 0) cn = sI (fun k => if bo k = c then 1 else 0) cn := by
    unfold sI
    rw [e, if_neg (by omega)]
    omega
  rw [e2]
  show _ + (if up bo cn (-4) cn = c then 1 else 0) = _
  rw [up_s, if_neg (by omega)]
  omega
theorem sTick_k {M lo nf : Int} {fm fa fb : Int → Int} {S : Int → Int → Int} {un : Int → Int} {s s1 : LSt} (H : sTick M lo nf fm fa fb S s s1) (K : cdK un s) : cdK un s1 := by
  obtain ⟨g, so, ta, go, sl, ld, ti, cn, bo, lt, wg⟩ := s
  obtain ⟨g1, so1, ta1, go1, sl1, ld1, ti1, cn1, bo1, lt1, wg1⟩ := s1
  obtain ⟨-, -, -, H4, H5, -, H7⟩ := H
  obtain ⟨K1, K2, K3, K4⟩ := K
  subst H4 H5 H7
  by_cases q : ¬ go1 = go ∧ cn < 200
  · show 0 ≤ (if ¬ go1 = go ∧ cn < 200 then cn + 1 else cn) ∧ _
    rw [if_pos q, if_pos q, if_pos q]
    refine ⟨by omega, fun k => ?_, fun k => ?_, fun c c0 c1 => by rw [ctI_add K1 c0]; exact K4 c c0 c1⟩
    · unfold up; split
      · omega
      · exact K2 k
    · unfold up; split
      · omega
      · exact K3 k
  · show 0 ≤ (if ¬ go1 = go ∧ cn < 200 then cn + 1 else cn) ∧ _
    rw [if_neg q, if_neg q, if_neg q]
    exact ⟨K1, K2, K3, K4⟩
theorem sTicks_k {M lo nf : Int} {fm fa fb : Int → Int} {S : Int → Int → Int} {un : Int → Int} : ∀ (n : Nat) {s s1 : LSt}, sTicks M lo nf fm fa fb S n s s1 → cdK un s → cdK un s1
  | 0, s, s1, H, K => by
    have e1 : s1 = s := H
    rw [e1]; exact K
  | n + 1, s, s1, H, K => by
    obtain ⟨s2, H1, H2⟩ := H
    exact sTicks_k n H2 (sTick_k H1 K)
/-! tours: changes of a kind to itself are never asked for -/
theorem fin6N : ∀ s < 64, ∀ k < 6, bt (rb (s : Nat) (k : Nat)) k = 0 := by decide +kernel
theorem fin6 {s k : Int} (hs : 0 ≤ s ∧ s ≤ 63) (hk : 0 ≤ k ∧ k ≤ 5) : bt (rb s k) k = 0 := by
  have h := fin6N s.toNat (by omega) k.toNat (by omega)
  rw [Int.toNat_of_nonneg hs.1, Int.toNat_of_nonneg hk.1] at h
  exact h
def oD (c d : Int → Int → Int) : Prop := ∀ a b, 0 ≤ a → a ≤ 5 → 0 ≤ b → b ≤ 5 → a ≠ b → c a b = d a b
theorem tT_c {c d : Int → Int → Int} (hc : oD c d) : ∀ (n : Nat) (k L : Int), 0 ≤ k ∧ k ≤ 5 → 0 ≤ L ∧ L ≤ 63 → bt L k = 0 → tT c n k L = tT d n k L
  | 0, _, _, _, _, _ => rfl
  | n + 1, k, L, hk, hL, hb => by
    have e : ∀ q, 0 ≤ q → q < 6 → bt L q ≠ 0 → c k q + tT c n q (rb L q) = d k q + tT d n q (rb L q) := fun q q0 q1 qb => by
      have h1 := fin1 hL (k := q) ⟨q0, by omega⟩
      rw [tT_c hc n q (rb L q) ⟨q0, by omega⟩ h1.2.1 (fin6 hL ⟨q0, by omega⟩), hc k q hk.1 hk.2 q0 (by omega) (fun z => by rw [z] at hb; exact qb hb)]
    have en : nk (bt L) (fun q => c k q + tT c n q (rb L q)) 6 = nk (bt L) (fun q => d k q + tT d n q (rb L q)) 6 := nk_c (by omega) e
    show (if L = 0 then 0 else _) = (if L = 0 then 0 else _)
    by_cases z : L = 0
    · rw [if_pos z, if_pos z]
    · rw [if_neg z, if_neg z, en]
      rcases nk_sp (bt L) (fun q => d k q + tT d n q (rb L q)) (show (0:Int) ≤ 6 by omega) with ⟨a, b⟩ | ⟨a1, a2, a3, a4⟩
      · exact absurd ((nk_bt _ hL).mp a) z
      · exact e _ a1 a2 a3
theorem tN_c {c d : Int → Int → Int} (hc : oD c d) {k L : Int} (hk : 0 ≤ k ∧ k ≤ 5) (hL : 0 ≤ L ∧ L ≤ 63) (hb : bt L k = 0) : tN c k L = tN d k L :=
  nk_c (by omega) (fun q q0 q1 qb => by
    have h1 := fin1 hL (k := q) ⟨q0, by omega⟩
    rw [tT_c hc 6 q (rb L q) ⟨q0, by omega⟩ h1.2.1 (fin6 hL ⟨q0, by omega⟩), hc k q hk.1 hk.2 q0 (by omega) (fun z => by rw [z] at hb; exact qb hb)])
theorem tW_c {c d : Int → Int → Int} (hc : oD c d) : ∀ (n : Nat) (k L : Int), 0 ≤ k ∧ k ≤ 5 → 0 ≤ L ∧ L ≤ 63 → bt L k = 0 → tW c n k L = tW d n k L
  | 0, _, _, _, _, _ => rfl
  | n + 1, k, L, hk, hL, hb => by
    show (if L = 0 then -4 else tW c n (tN c k L) (rb L (tN c k L))) = (if L = 0 then -4 else tW d n (tN d k L) (rb L (tN d k L)))
    by_cases z : L = 0
    · rw [if_pos z, if_pos z]
    · rw [if_neg z, if_neg z, tN_c hc hk hL hb]
      rcases nk_sp (bt L) (fun q => d k q + tT d 6 q (rb L q)) (show (0:Int) ≤ 6 by omega) with ⟨a, b⟩ | ⟨a1, a2, a3, a4⟩
      · exact absurd ((nk_bt _ hL).mp a) z
      · have h0 : 0 ≤ tN d k L ∧ tN d k L ≤ 5 := ⟨a1, by unfold tN; omega⟩
        exact tW_c hc n _ _ h0 (fin1 hL h0).2.1 (fin6 hL h0)
theorem f_tour_c {c d : Int → Int → Int} (hc : oD c d) (s f i : Int) : f_tour c s f i = f_tour d s f i := by
  unfold f_tour
  by_cases q : ¬ ((1 ≤ s ∧ s ≤ 63) ∧ (0 ≤ f ∧ f ≤ 5) ∧ bt s f ≠ 0 ∧ -1 ≤ i)
  · rw [if_pos q, if_pos q]
  · rw [if_neg q, if_neg q]
    have q := Classical.not_not.mp q
    have hs : 0 ≤ s ∧ s ≤ 63 := by omega
    have h1 := fin1 hs q.2.1
    by_cases z : i < 0
    · rw [if_pos z, if_pos z]; exact tT_c hc 6 f _ q.2.1 h1.2.1 (fin6 hs q.2.1)
    · rw [if_neg z, if_neg z]; exact tW_c hc _ f _ q.2.1 h1.2.1 (fin6 hs q.2.1)

end LAW0
