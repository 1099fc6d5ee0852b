section HOLDS
theorem cn_s (p : Int → Prop) [DecidablePred p] (n : Nat) : sm (fun k => bI (p k)) (n + 1) = sm (fun k => bI (p k)) n + bI (p (n : Int)) := rfl
theorem cn_b (p : Int → Prop) [DecidablePred p] : ∀ n : Nat, 0 ≤ sm (fun k => bI (p k)) n ∧ sm (fun k => bI (p k)) n ≤ n
  | 0 => ⟨Int.le_refl 0, Int.le_refl 0⟩
  | n + 1 => by
    have h1 := cn_b p n
    have h2 := bI_01 (p (n : Int))
    rw [cn_s]
    omega
theorem cn_1 (p : Int → Prop) [DecidablePred p] : ∀ (n : Nat) (j : Int), 0 ≤ j → j < n → p j → 1 ≤ sm (fun k => bI (p k)) n
  | 0, j, h0, h1, _ => by omega
  | n + 1, j, h0, h1, hp => by
    have h2 := bI_01 (p (n : Int))
    have h3 := cn_b p n
    rw [cn_s]
    by_cases e : j = n
    · rw [e] at hp
      have : bI (p (n : Int)) = 1 := if_pos hp
      omega
    · have := cn_1 p n j h0 (by omega) hp
      omega
theorem cn_2 (p : Int → Prop) [DecidablePred p] : ∀ (n : Nat) (j k : Int), 0 ≤ j → j < k → k < n → p j → p k → 2 ≤ sm (fun k => bI (p k)) n
  | 0, j, k, h0, h1, h2, _, _ => by omega
  | n + 1, j, k, h0, h1, h2, hj, hk => by
    have h3 := bI_01 (p (n : Int))
    rw [cn_s]
    by_cases e : k = n
    · rw [e] at hk
      have h4 : bI (p (n : Int)) = 1 := if_pos hk
      have := cn_1 p n j h0 (by omega) hj
      omega
    · have := cn_2 p n j k h0 h1 (by omega) hj hk
      omega
theorem cn_1' (p : Int → Prop) [DecidablePred p] : ∀ (n : Nat), 1 ≤ sm (fun k => bI (p k)) n → ∃ j : Int, 0 ≤ j ∧ j < n ∧ p j
  | 0, h => by
    have e : sm (fun k => bI (p k)) 0 = 0 := rfl
    omega
  | n + 1, h => by
    rw [cn_s] at h
    by_cases e : p (n : Int)
    · exact ⟨n, by omega, by omega, e⟩
    · have h4 : bI (p (n : Int)) = 0 := if_neg e
      obtain ⟨j, a, b, c⟩ := cn_1' p n (by omega)
      exact ⟨j, a, by omega, c⟩
theorem cn_2' (p : Int → Prop) [DecidablePred p] : ∀ (n : Nat), 2 ≤ sm (fun k => bI (p k)) n → ∃ j k : Int, 0 ≤ j ∧ j < k ∧ k < n ∧ p j ∧ p k
  | 0, h => by
    have e : sm (fun k => bI (p k)) 0 = 0 := rfl
    omega
  | n + 1, h => by
    rw [cn_s] at h
    by_cases e : p (n : Int)
    · have h4 : bI (p (n : Int)) = 1 := if_pos e
      obtain ⟨j, a, b, c⟩ := cn_1' p n (by omega)
      exact ⟨j, n, a, by omega, by omega, c, e⟩
    · have h4 : bI (p (n : Int)) = 0 := if_neg e
      obtain ⟨j, k, a, b, c, d⟩ := cn_2' p n (by omega)
      exact ⟨j, k, a, b, by omega, d⟩
/-- a place k and the place i of the layer turned half round have a square in common -/
def mtB (zc : Int → Int) (a b i k : Int) : Prop := zc (4 * k) < a - zc (4 * i) - zc (4 * i + 2) + zc (4 * i + 2) ∧ a - zc (4 * i) - zc (4 * i + 2) < zc (4 * k) + zc (4 * k + 2) ∧ zc (4 * k + 1) < b - zc (4 * i + 1) - zc (4 * i + 3) + zc (4 * i + 3) ∧ b - zc (4 * i + 1) - zc (4 * i + 3) < zc (4 * k + 1) + zc (4 * k + 3)
def metC (zc : Int → Int) (a b n i : Int) : Int := sI (fun k => bI (zc (4 * k) < a - zc (4 * i) - zc (4 * i + 2) + zc (4 * i + 2) ∧ a - zc (4 * i) - zc (4 * i + 2) < zc (4 * k) + zc (4 * k + 2) ∧ zc (4 * k + 1) < b - zc (4 * i + 1) - zc (4 * i + 3) + zc (4 * i + 3) ∧ b - zc (4 * i + 1) - zc (4 * i + 3) < zc (4 * k + 1) + zc (4 * k + 3))) n
def hldC (zc : Int → Int) (a b n : Int) : Int := sI (fun i => bI (1 < metC zc a b n i)) n
def f_holds (mk a b n : Int) (zc : Int → Int) : Int := if mk = 0 then -2 else hldC zc a b n
theorem metC_b (zc : Int → Int) (a b i : Int) {n : Int} (hn : 0 ≤ n) : 0 ≤ metC zc a b n i ∧ metC zc a b n i ≤ n := by
  have h := cn_b (fun k => zc (4 * k) < a - zc (4 * i) - zc (4 * i + 2) + zc (4 * i + 2) ∧ a - zc (4 * i) - zc (4 * i + 2) < zc (4 * k) + zc (4 * k + 2) ∧ zc (4 * k + 1) < b - zc (4 * i + 1) - zc (4 * i + 3) + zc (4 * i + 3) ∧ b - zc (4 * i + 1) - zc (4 * i + 3) < zc (4 * k + 1) + zc (4 * k + 3)) n.toNat
  unfold metC sI
  omega
theorem met_2 {zc : Int → Int} {a b n i j k : Int} (h0 : 0 ≤ j) (h1 : j < n) (h2 : 0 ≤ k) (h3 : k < n) (hne : j ≠ k) (hj : mtB zc a b i j) (hk : mtB zc a b i k) : 1 < metC zc a b n i := by
  unfold metC sI
  rcases Int.lt_or_gt_of_ne hne with q | q
  · exact cn_2 (fun k => zc (4 * k) < a - zc (4 * i) - zc (4 * i + 2) + zc (4 * i + 2) ∧ a - zc (4 * i) - zc (4 * i + 2) < zc (4 * k) + zc (4 * k + 2) ∧ zc (4 * k + 1) < b - zc (4 * i + 1) - zc (4 * i + 3) + zc (4 * i + 3) ∧ b - zc (4 * i + 1) - zc (4 * i + 3) < zc (4 * k + 1) + zc (4 * k + 3)) n.toNat j k h0 q (by omega) hj hk
  · exact cn_2 (fun k => zc (4 * k) < a - zc (4 * i) - zc (4 * i + 2) + zc (4 * i + 2) ∧ a - zc (4 * i) - zc (4 * i + 2) < zc (4 * k) + zc (4 * k + 2) ∧ zc (4 * k + 1) < b - zc (4 * i + 1) - zc (4 * i + 3) + zc (4 * i + 3) ∧ b - zc (4 * i + 1) - zc (4 * i + 3) < zc (4 * k + 1) + zc (4 * k + 3)) n.toNat k j h2 q (by omega) hk hj
theorem met_2' {zc : Int → Int} {a b n i : Int} (h : 1 < metC zc a b n i) : ∃ j k, 0 ≤ j ∧ j < k ∧ k < n ∧ mtB zc a b i j ∧ mtB zc a b i k := by
  unfold metC sI at h
  obtain ⟨j, k, h0, h1, h2, h3, h4⟩ := cn_2' (fun k => zc (4 * k) < a - zc (4 * i) - zc (4 * i + 2) + zc (4 * i + 2) ∧ a - zc (4 * i) - zc (4 * i + 2) < zc (4 * k) + zc (4 * k + 2) ∧ zc (4 * k + 1) < b - zc (4 * i + 1) - zc (4 * i + 3) + zc (4 * i + 3) ∧ b - zc (4 * i + 1) - zc (4 * i + 3) < zc (4 * k + 1) + zc (4 * k + 3)) n.toNat h
  exact ⟨j, k, h0, h1, by omega, h3, h4⟩
/-- the places of a layer: within it, and apart -/
def plOk (a b n : Int) (zc : Int → Int) : Prop := (0 ≤ n ∧ n ≤ 144) ∧ (∀ i, 0 ≤ i → i < n → okQ a b (q4 zc i)) ∧ ∀ i j s t, 0 ≤ i → i < n → 0 ≤ j → j < n → cvr (q4 zc i) s t → cvr (q4 zc j) s t → i = j
theorem rep_cov1 {f : Int → Int} (s t : Int) : ∀ {n : Int} {L : List Qd}, rep f n L → ∀ i, 0 ≤ i → i < n → cov s t (q4 f i) ≤ sumL (cov s t) L
  | n, [], h, i, i0, i1 => by
    have : n = 0 := h
    omega
  | n, p :: L, h, i, i0, i1 => by
    have hc := cov_b s t p
    have e : sumL (cov s t) (p :: L) = cov s t p + sumL (cov s t) L := rfl
    have hz : 0 ≤ sumL (cov s t) L := by
      have z : ∀ M : List Qd, 0 ≤ sumL (cov s t) M := fun M => by
        induction M with
        | nil => exact Int.le_refl 0
        | cons q M ih =>
          have := cov_b s t q
          show 0 ≤ cov s t q + sumL (cov s t) M
          omega
      exact z L
    by_cases q : i = n - 1
    · rw [q, h.2.1, e]; omega
    · have := rep_cov1 s t h.2.2 i i0 (by omega)
      rw [e]; omega
theorem rep_cov2 {f : Int → Int} (s t : Int) : ∀ {n : Int} {L : List Qd}, rep f n L → ∀ i j, 0 ≤ i → i < j → j < n → cov s t (q4 f i) + cov s t (q4 f j) ≤ sumL (cov s t) L
  | n, [], h, i, j, i0, i1, i2 => by
    have : n = 0 := h
    omega
  | n, p :: L, h, i, j, i0, i1, i2 => by
    have hc := cov_b s t p
    have e : sumL (cov s t) (p :: L) = cov s t p + sumL (cov s t) L := rfl
    by_cases q : j = n - 1
    · have := rep_cov1 s t h.2.2 i i0 (by omega)
      rw [q, h.2.1, e]; omega
    · have := rep_cov2 s t h.2.2 i j i0 i1 (by omega)
      rw [e]; omega
theorem plOk_of {a b qa qb n : Int} {zc : Int → Int} {Ps : List Qd} (ha : 1 ≤ qa) (hb : 1 ≤ qb) (hX : 1 ≤ a ∧ a ≤ 12) (hY : 1 ≤ b ∧ b ≤ 12) (H : isLay qa qb a b Ps) (hr : rep zc n Ps) : plOk a b n zc := by
  obtain ⟨h1, h2, h3⟩ := isLay_ok ha hb hX hY H
  have hl := rep_len hr
  refine ⟨by omega, fun i i0 i1 => h1 _ (rep_in hr i i0 i1), fun i j s t i0 i1 j0 j1 ci cj => ?_⟩
  have e1 := cov_1 ci
  have e2 := cov_1 cj
  have e3 := h3 s t
  rcases Int.lt_trichotomy i j with q | q | q
  · have := rep_cov2 s t hr i j i0 q j1; omega
  · exact q
  · have := rep_cov2 s t hr j i j0 q i1; omega
/-- whose each square is, of the places (and squares) that D says are marked -/
def oR (zc : Int → Int) (n : Int) (o : Int → Int) (D : Int → Int → Int → Prop) : Prop := ∀ s t, 0 ≤ s → s ≤ 11 → 0 ≤ t → t ≤ 11 → (o (t * 12 + s) = 0 ∧ ∀ j, 0 ≤ j → j < n → D j s t → ¬ cvr (q4 zc j) s t) ∨ (1 ≤ o (t * 12 + s) ∧ o (t * 12 + s) ≤ n ∧ cvr (q4 zc (o (t * 12 + s) - 1)) s t)
theorem oR_m {zc : Int → Int} {n : Int} {o : Int → Int} {D D' : Int → Int → Int → Prop} (h : ∀ j s t, 0 ≤ j → j < n → D' j s t → ¬ D j s t → ¬ cvr (q4 zc j) s t) (H : oR zc n o D) : oR zc n o D' := fun s t s0 s1 t0 t1 => by
  rcases H s t s0 s1 t0 t1 with ⟨a, b⟩ | a
  · refine Or.inl ⟨a, fun j j0 j1 d => ?_⟩
    rcases Classical.em (D j s t) with q | q
    · exact b j j0 j1 q
    · exact h j s t j0 j1 d q
  · exact Or.inr a
theorem oR_u {zc : Int → Int} {n i w h x : Int} {o : Int → Int} {D D' : Int → Int → Int → Prop} (hi : 0 ≤ i ∧ i < n) (hw : 0 ≤ w ∧ w ≤ 11) (hh : 0 ≤ h ∧ h ≤ 11) (hc : cvr (q4 zc i) w h) (hx : x = h * 12 + w) (hD : ∀ j s t, D' j s t → ¬ D j s t → s = w ∧ t = h) (H : oR zc n o D) : oR zc n (up o x (i + 1)) D' := fun s t s0 s1 t0 t1 => by
  by_cases e : s = w ∧ t = h
  · obtain ⟨rfl, rfl⟩ := e
    rw [hx, up_s]
    exact Or.inr ⟨by omega, by omega, by rw [show i + 1 - 1 = i by omega]; exact hc⟩
  · rw [up_n _ _ (by omega)]
    rcases H s t s0 s1 t0 t1 with ⟨a, b⟩ | a
    · refine Or.inl ⟨a, fun j j0 j1 d => ?_⟩
      rcases Classical.em (D j s t) with q | q
      · exact b j j0 j1 q
      · exact absurd (hD j s t d q) e
    · exact Or.inr a
def bn (o : Int → Int) (a b s t : Int) : Int := o ((b - 1 - t) * 12 + (a - 1 - s))
theorem hold_t {zc o : Int → Int} {a b n i s t s' t' : Int} (ha : 1 ≤ a ∧ a ≤ 12) (hb : 1 ≤ b ∧ b ≤ 12) (hp : plOk a b n zc) (hi : 0 ≤ i ∧ i < n) (H : oR zc n o (fun j _ _ => j < n)) (h1 : cvr (q4 zc i) s t) (h2 : cvr (q4 zc i) s' t') (u1 : bn o a b s t ≠ 0) (u2 : bn o a b s' t' ≠ 0) (hne : bn o a b s t ≠ bn o a b s' t') : 1 < metC zc a b n i := by
  have hq := hp.2.1 i hi.1 hi.2
  have h1' := h1
  have h2' := h2
  unfold okQ q4 at hq
  unfold cvr q4 at h1' h2'
  simp only at hq h1' h2'
  have g : ∀ s t, cvr (q4 zc i) s t → bn o a b s t ≠ 0 → 0 ≤ bn o a b s t - 1 ∧ bn o a b s t - 1 < n ∧ mtB zc a b i (bn o a b s t - 1) := fun s t hc hu => by
    unfold cvr q4 at hc
    simp only at hc
    unfold bn at *
    rcases H (a - 1 - s) (b - 1 - t) (by omega) (by omega) (by omega) (by omega) with ⟨z, -⟩ | ⟨z1, z2, z3⟩
    · exact absurd z hu
    · refine ⟨by omega, by omega, ?_⟩
      generalize o ((b - 1 - t) * 12 + (a - 1 - s)) - 1 = k at *
      unfold cvr q4 at z3
      simp only at z3
      unfold mtB
      omega
  obtain ⟨a1, a2, a3⟩ := g s t h1 u1
  obtain ⟨b1, b2, b3⟩ := g s' t' h2 u2
  exact met_2 a1 a2 b1 b2 (by omega) a3 b3
theorem hold_f {zc o : Int → Int} {a b n i f : Int} (ha : 1 ≤ a ∧ a ≤ 12) (hb : 1 ≤ b ∧ b ≤ 12) (hp : plOk a b n zc) (hi : 0 ≤ i ∧ i < n) (H : oR zc n o (fun j _ _ => j < n)) (hf : ∀ s t, cvr (q4 zc i) s t → bn o a b s t = 0 ∨ bn o a b s t = f) : ¬ 1 < metC zc a b n i := fun q => by
  obtain ⟨j, k, h0, h1, h2, hj, hk⟩ := met_2' q
  have hq := hp.2.1 i hi.1 hi.2
  unfold okQ q4 at hq
  simp only at hq
  have g : ∀ k, 0 ≤ k → k < n → mtB zc a b i k → f = k + 1 := fun k k0 k1 hm => by
    have hk := hp.2.1 k k0 k1
    unfold okQ q4 at hk
    simp only at hk
    unfold mtB at hm
    have c : cvr (q4 zc k) (max (zc (4 * k)) (a - zc (4 * i) - zc (4 * i + 2))) (max (zc (4 * k + 1)) (b - zc (4 * i + 1) - zc (4 * i + 3))) := by
      unfold cvr q4; simp only; omega
    have e := hf (a - 1 - max (zc (4 * k)) (a - zc (4 * i) - zc (4 * i + 2))) (b - 1 - max (zc (4 * k + 1)) (b - zc (4 * i + 1) - zc (4 * i + 3))) (by unfold cvr q4; simp only; omega)
    unfold bn at e
    rw [show b - 1 - (b - 1 - max (zc (4 * k + 1)) (b - zc (4 * i + 1) - zc (4 * i + 3))) = max (zc (4 * k + 1)) (b - zc (4 * i + 1) - zc (4 * i + 3)) by omega, show a - 1 - (a - 1 - max (zc (4 * k)) (a - zc (4 * i) - zc (4 * i + 2))) = max (zc (4 * k)) (a - zc (4 * i) - zc (4 * i + 2)) by omega] at e
    rcases H (max (zc (4 * k)) (a - zc (4 * i) - zc (4 * i + 2))) (max (zc (4 * k + 1)) (b - zc (4 * i + 1) - zc (4 * i + 3))) (by omega) (by omega) (by omega) (by omega) with ⟨z1, z2⟩ | ⟨z1, z2, z3⟩
    · exact absurd c (z2 k k0 k1 k1)
    · have := hp.2.2 _ _ _ _ (by omega) (by omega) k0 k1 z3 c
      omega
  have e1 := g j h0 (by omega) hj
  have e2 := g k (by omega) h2 hk
  omega
/-- what the search for two owners beneath knows -/
def tI (zc o : Int → Int) (a b i f : Int) (D : Int → Int → Prop) : Prop := (f = 0 ∨ ∃ s t, cvr (q4 zc i) s t ∧ bn o a b s t = f) ∧ ∀ s t, cvr (q4 zc i) s t → D s t → bn o a b s t = 0 ∨ bn o a b s t = f
theorem tI_m {zc o : Int → Int} {a b i f : Int} {D D' : Int → Int → Prop} (h : ∀ s t, cvr (q4 zc i) s t → D' s t → D s t) (H : tI zc o a b i f D) : tI zc o a b i f D' := ⟨H.1, fun s t c d => H.2 s t c (h s t c d)⟩
theorem tI_0 {zc o : Int → Int} {a b i w h u : Int} {D D' : Int → Int → Prop} (hc : cvr (q4 zc i) w h) (hu : u = bn o a b w h) (hD : ∀ s t, D' s t → D s t ∨ (s = w ∧ t = h)) (H : tI zc o a b i 0 D) : tI zc o a b i u D' := by
  refine ⟨Or.inr ⟨w, h, hc, hu.symm⟩, fun s t c d => ?_⟩
  rcases hD s t d with q | ⟨rfl, rfl⟩
  · rcases H.2 s t c q with z | z
    · exact Or.inl z
    · exact Or.inl z
  · exact Or.inr hu.symm
theorem tI_s {zc o : Int → Int} {a b i f w h : Int} {D D' : Int → Int → Prop} (hu : bn o a b w h = 0 ∨ bn o a b w h = f) (hD : ∀ s t, D' s t → D s t ∨ (s = w ∧ t = h)) (H : tI zc o a b i f D) : tI zc o a b i f D' := by
  refine ⟨H.1, fun s t c d => ?_⟩
  rcases hD s t d with q | ⟨rfl, rfl⟩
  · exact H.2 s t c q
  · exact hu

set_option maxHeartbeats 4000000 in
set_option maxRecDepth 100000 in
theorem c_nb (E : Ev) (p0 : Nat) (w1 : Nat) (w2 : Nat) (w3 : Nat) (w4 : Nat) (mk : Int) (px : Int) (py : Int) (pa : Int) (pb : Int) (nw : Int) (np : Int) (nq : Int) (zc : Int → Int) (i : Int) (what : Int) (hi : 0 ≤ i ∧ i < np) (hnp : 0 ≤ np ∧ np ≤ 144) (hwt : 0 ≤ what ∧ what ≤ 3) : MI yX4_numberOf wsX4_numberOf ({ frames := 0, cells := 0, slots := 0, locals := 0 } : Room) E [] 0 0 [.ref p0, .int (iI i), .int (iI what)] [(p0, oo 4 [.int (iI mk), .int (iI px), .int (iI py), .int (iI pa), .int (iI pb), .int (iI nw), .ref w1, .ref w2, .int (iI np), .ref w3, .int (iI nq), .ref w4]), (w2, aI E 576 zc)] (fun r u => r = iI (zc (4 * i + what)) ∧ u = [(p0, oo 4 [.int (iI mk), .int (iI px), .int (iI py), .int (iI pa), .int (iI pb), .int (iI nw), .ref w1, .ref w2, .int (iI np), .ref w3, .int (iI nq), .ref w4]), (w2, aI E 576 zc)]) := by
  refine MI.of (cc := cX4_numberOf) (maxL := 3) (own := RX4) (by decide) rfl rfl rfl (Nat.le_of_ble_eq_true rfl) [(0, .ref p0), (1, .int (iI i)), (2, .int (iI what))] rfl ?_
  intro X hin2 hRet
  refine g_iload_n 1 dX4_numberOf_0 rfl rfl ?_
  refine g_aload_n 0 dX4_numberOf_1 rfl rfl ?_
  refine g_get (C := RX4) (T := TX4) (N := 12) 0 8 (fun _ h => List.mem_cons_of_mem _ (List.mem_append_right _ h)) (List.mem_of_getElem? (i := 1) rfl) rfl rfl (by decide) rfl rfl dX4_numberOf_2 ?_
  refine g_icmp_ge (tgt := 21) (by unfold R32; omega) (by unfold R32; omega) dX4_numberOf_5 rfl (fun c_1 => ?_) (fun c_1 => ?_)
  · refine g_bipush dX4_numberOf_21 rfl ?_
    exact g_iret hRet dX4_numberOf_23 rfl ⟨(congrArg iI (by first | rfl | (exfalso; omega))), rfl⟩
  · refine g_aload_n 0 dX4_numberOf_8 rfl rfl ?_
    refine g_get (C := RX4) (T := TX4) (N := 12) 0 7 (fun _ h => List.mem_cons_of_mem _ (List.mem_append_right _ h)) (List.mem_of_getElem? (i := 2) rfl) rfl rfl (by decide) rfl rfl dX4_numberOf_9 ?_
    refine g_iconst dX4_numberOf_12 ?_
    refine g_iload_n 1 dX4_numberOf_13 rfl rfl ?_
    refine g_imul dX4_numberOf_14 ?_
    refine g_iload_n 2 dX4_numberOf_15 rfl rfl ?_
    refine g_iadd dX4_numberOf_16 ?_
    refine g_iald 1 dX4_numberOf_17 rfl (by decide) (by omega) (by omega) ?_
    refine g_goto (tgt := 23) dX4_numberOf_18 rfl ?_
    exact g_iret hRet dX4_numberOf_23 rfl ⟨(congrArg iI (by first | rfl | (exfalso; omega))), rfl⟩

set_option maxHeartbeats 4000000 in
set_option maxRecDepth 100000 in
theorem c_X4_isSquare (E : Ev) (w : Int) (h : Int) (h_w : -2147483648 ≤ w ∧ w ≤ 2147483647) (h_h : -2147483648 ≤ h ∧ h ≤ 2147483647) : MI yX4_isSquare wsX4_isSquare ({ frames := 1, cells := 0, slots := 0, locals := 22 } : Room) E [] 0 0 [.int (iI w), .int (iI h)] [] (fun r u => (r = iI (bI ((0 ≤ w ∧ w ≤ 11) ∧ 0 ≤ h ∧ h ≤ 11))) ∧ u = []) := by
  refine MI.of (cc := cX4_isSquare) (maxL := 2) (own := RX4) (by decide) rfl rfl rfl (Nat.le_of_ble_eq_true rfl) [(0, .int (iI w)), (1, .int (iI h))] rfl ?_
  intro X hin2 hRet
  refine g_iload_n 0 dX4_isSquare_0 rfl rfl ?_
  refine g_iconst dX4_isSquare_1 ?_
  refine g_bipush dX4_isSquare_2 rfl ?_
  refine g_callN_i (n := 3) (As := [.int (iI w), .int (iI 0), .int (iI 11)]) (wr := []) [] (c_X6_within E w 0 11 (by omega) (by omega) (by omega)) [] [] gX4_isSquare_X6_within_n132 (fun _ h => h.2.2.2.2.2.2.2.2.1) (List.mem_of_getElem? (i := 2) rfl) (List.mem_of_getElem? (i := 1) rfl) rfl (by decide +kernel) ⟨by decide, by decide⟩ rfl rfl rfl rfl rfl (by decide) rfl (by decide) (by decide) (fun _ h => absurd h List.not_mem_nil) dX4_isSquare_4 rfl (Nat.le_of_ble_eq_true rfl) ⟨by decide, by decide⟩ (fun r u p_1 => ?_)
  obtain ⟨rfl, rfl⟩ := p_1
  refine g_perm (ws1 := []) [] rfl (by decide) rfl ?_
  refine g_if_eq_b (tgt := 24) dX4_isSquare_7 rfl (fun c_2 => ?_) (fun c_2 => ?_)
  · refine g_iload_n 1 dX4_isSquare_10 rfl rfl ?_
    refine g_iconst dX4_isSquare_11 ?_
    refine g_bipush dX4_isSquare_12 rfl ?_
    refine g_callN_i (n := 3) (As := [.int (iI h), .int (iI 0), .int (iI 11)]) (wr := []) [] (c_X6_within E h 0 11 (by omega) (by omega) (by omega)) [] [] gX4_isSquare_X6_within_n132 (fun _ h => h.2.2.2.2.2.2.2.2.1) (List.mem_of_getElem? (i := 2) rfl) (List.mem_of_getElem? (i := 1) rfl) rfl (by decide +kernel) ⟨by decide, by decide⟩ rfl rfl rfl rfl rfl (by decide) rfl (by decide) (by decide) (fun _ h => absurd h List.not_mem_nil) dX4_isSquare_14 rfl (Nat.le_of_ble_eq_true rfl) ⟨by decide, by decide⟩ (fun r u p_3 => ?_)
    obtain ⟨rfl, rfl⟩ := p_3
    refine g_perm (ws1 := []) [] rfl (by decide) rfl ?_
    refine g_if_eq_b (tgt := 24) dX4_isSquare_17 rfl (fun c_4 => ?_) (fun c_4 => ?_)
    · refine g_iconst dX4_isSquare_20 ?_
      refine g_goto (tgt := 25) dX4_isSquare_21 rfl ?_
      exact g_iret hRet dX4_isSquare_25 rfl ⟨(bI_t (by omega)), rfl⟩
    · refine g_iconst dX4_isSquare_24 ?_
      exact g_iret hRet dX4_isSquare_25 rfl ⟨(bI_f (by omega)), rfl⟩
  · refine g_iconst dX4_isSquare_24 ?_
    exact g_iret hRet dX4_isSquare_25 rfl ⟨(bI_f (by omega)), rfl⟩

set_option maxHeartbeats 4000000 in
set_option maxRecDepth 100000 in
theorem c_X4_ownerOf (E : Ev) (p0 : Nat) (w1 : Nat) (w2 : Nat) (w3 : Nat) (w4 : Nat) (mk : Int) (px : Int) (py : Int) (pa : Int) (pb : Int) (nw : Int) (np : Int) (nq : Int) (oz : Int → Int) (w : Int) (h : Int) (hw : 0 ≤ w ∧ w ≤ 11) (hh : 0 ≤ h ∧ h ≤ 11) : MI yX4_ownerOf wsX4_ownerOf ({ frames := 2, cells := 0, slots := 0, locals := 43 } : Room) E [] 0 0 [.ref p0, .int (iI w), .int (iI h)] [(p0, oo 4 [.int (iI mk), .int (iI px), .int (iI py), .int (iI pa), .int (iI pb), .int (iI nw), .ref w1, .ref w2, .int (iI np), .ref w3, .int (iI nq), .ref w4]), (w4, aI E 144 oz)] (fun r u => r = iI (oz (h * 12 + w)) ∧ u = [(p0, oo 4 [.int (iI mk), .int (iI px), .int (iI py), .int (iI pa), .int (iI pb), .int (iI nw), .ref w1, .ref w2, .int (iI np), .ref w3, .int (iI nq), .ref w4]), (w4, aI E 144 oz)]) := by
  refine MI.of (cc := cX4_ownerOf) (maxL := 3) (own := RX4) (by decide) rfl rfl rfl (Nat.le_of_ble_eq_true rfl) [(0, .ref p0), (1, .int (iI w)), (2, .int (iI h))] rfl ?_
  intro X hin2 hRet
  refine g_iload_n 1 dX4_ownerOf_0 rfl rfl ?_
  refine g_iload_n 2 dX4_ownerOf_1 rfl rfl ?_
  refine g_callS_i (n := 2) (As := [.int (iI w), .int (iI h)]) (wr := [(p0, oo 4 [.int (iI mk), .int (iI px), .int (iI py), .int (iI pa), .int (iI pb), .int (iI nw), .ref w1, .ref w2, .int (iI np), .ref w3, .int (iI nq), .ref w4]), (w4, aI E 144 oz)]) [] (c_X4_isSquare E w h (by omega) (by omega)) [] [0, 1] gX4_ownerOf_X4_isSquare rfl ⟨rfl, by decide +kernel⟩ ⟨by decide, by decide⟩ rfl rfl rfl rfl rfl (by decide) rfl (by decide) (by decide) (fun _ h => absurd h List.not_mem_nil) dX4_ownerOf_2 rfl (Nat.le_of_ble_eq_true rfl) ⟨by decide, by decide⟩ (fun r u p_1 => ?_)
  obtain ⟨rfl, rfl⟩ := p_1
  refine g_perm (ws1 := [(p0, oo 4 [.int (iI mk), .int (iI px), .int (iI py), .int (iI pa), .int (iI pb), .int (iI nw), .ref w1, .ref w2, .int (iI np), .ref w3, .int (iI nq), .ref w4]), (w4, aI E 144 oz)]) [0, 1] rfl (by decide) rfl ?_
  refine g_if_eq_b (tgt := 22) dX4_ownerOf_5 rfl (fun c_2 => ?_) (fun c_2 => ?_)
  · refine g_aload_n 0 dX4_ownerOf_8 rfl rfl ?_
    refine g_get (C := RX4) (T := TX4) (N := 12) 0 11 (fun _ h => List.mem_cons_of_mem _ (List.mem_append_right _ h)) (List.mem_of_getElem? (i := 1) rfl) rfl rfl (by decide) rfl rfl dX4_ownerOf_9 ?_
    refine g_iload_n 2 dX4_ownerOf_12 rfl rfl ?_
    refine g_bipush dX4_ownerOf_13 rfl ?_
    refine g_imul dX4_ownerOf_15 ?_
    refine g_iload_n 1 dX4_ownerOf_16 rfl rfl ?_
    refine g_iadd dX4_ownerOf_17 ?_
    refine g_iald 1 dX4_ownerOf_18 rfl (by decide) (by omega) (by omega) ?_
    refine g_goto (tgt := 23) dX4_ownerOf_19 rfl ?_
    exact g_iret hRet dX4_ownerOf_23 rfl ⟨(congrArg iI (by first | rfl | (exfalso; omega))), rfl⟩
  · refine g_iconst dX4_ownerOf_22 ?_
    exact g_iret hRet dX4_ownerOf_23 rfl ⟨(congrArg iI (by first | rfl | (exfalso; omega))), rfl⟩

set_option maxHeartbeats 4000000 in
set_option maxRecDepth 100000 in
theorem c_X4_markOwners (E : Ev) (p0 : Nat) (w1 : Nat) (w2 : Nat) (w3 : Nat) (w4 : Nat) (mk : Int) (px : Int) (py : Int) (pa : Int) (pb : Int) (nw : Int) (np : Int) (nq : Int) (zc : Int → Int) (oz : Int → Int) (hxy : (1 ≤ px ∧ px ≤ 12) ∧ 1 ≤ py ∧ py ≤ 12) (hp : plOk px py np zc) : MV yX4_markOwners wsX4_markOwners ({ frames := 2, cells := 0, slots := 0, locals := 43 } : Room) E [] 0 0 [.ref p0] [(p0, oo 4 [.int (iI mk), .int (iI px), .int (iI py), .int (iI pa), .int (iI pb), .int (iI nw), .ref w1, .ref w2, .int (iI np), .ref w3, .int (iI nq), .ref w4]), (w2, aI E 576 zc), (w4, aI E 144 oz)] (fun u => ∃ (oz' : Int → Int), oR zc np oz' (fun j _ _ => j < np) ∧ u = [(p0, oo 4 [.int (iI mk), .int (iI px), .int (iI py), .int (iI pa), .int (iI pb), .int (iI nw), .ref w1, .ref w2, .int (iI np), .ref w3, .int (iI nq), .ref w4]), (w2, aI E 576 zc), (w4, aI E 144 oz')]) := by
  refine MV.of (cc := cX4_markOwners) (maxL := 6) (own := RX4) (by decide) rfl rfl rfl (Nat.le_of_ble_eq_true rfl) [(0, .ref p0)] rfl ?_
  intro X hin2 hRet
  have hnp := hp.1
  refine g_aload_n 0 dX4_markOwners_0 rfl rfl ?_
  refine g_get (C := RX4) (T := TX4) (N := 12) 0 11 (fun _ h => List.mem_cons_of_mem _ (List.mem_append_right _ h)) (List.mem_of_getElem? (i := 1) rfl) rfl rfl (by decide) rfl rfl dX4_markOwners_1 ?_
  refine g_iconst dX4_markOwners_4 ?_
  refine g_callO_v (n := 2) (As := [.ref w4, .int (iI 0)]) (wr := [(p0, oo 4 [.int (iI mk), .int (iI px), .int (iI py), .int (iI pa), .int (iI pb), .int (iI nw), .ref w1, .ref w2, .int (iI np), .ref w3, .int (iI nq), .ref w4]), (w2, aI E 576 zc)]) [] (c_J7_fill_53178 E w4 144 oz 0 (by omega)) [2] [0, 1] gX4_markOwners_J7_fill_53178 rfl (by decide +kernel) ⟨by decide, by decide⟩ rfl rfl rfl rfl rfl (by decide) rfl (by decide) (by decide) (fun _ h => absurd h List.not_mem_nil) dX4_markOwners_5 rfl (Nat.le_of_ble_eq_true rfl) ⟨by decide, by decide⟩ (fun u p_1 => ?_)
  subst p_1
  refine g_iconst dX4_markOwners_8 ?_
  refine g_istore_n (lv1 := [(1, .int (iI 0)), (0, .ref p0)]) dX4_markOwners_9 rfl (by decide) rfl ?_
  refine g_lv (lv1 := [(0, .ref p0), (1, .int (iI 0))]) [1, 0] rfl ?_
  have L10 : ∀ (nn : Nat) (i : Int) (o1 : Int → Int) (hi1 : 0 ≤ i ∧ i ≤ np) (hO1 : oR zc np o1 (fun j s t => j < i)) (hm : np - i < (nn : Int)), G X ({ frames := 2, cells := 0, slots := 0, locals := 43 } : Room) cX4_markOwners 6 RX4 wsX4_markOwners E [] 0 0 [(p0, oo 4 [.int (iI mk), .int (iI px), .int (iI py), .int (iI pa), .int (iI pb), .int (iI nw), .ref w1, .ref w2, .int (iI np), .ref w3, .int (iI nq), .ref w4]), (w2, aI E 576 zc), (w4, aI E 144 o1)] [(0, .ref p0), (1, .int (iI i))] 10 [] := by
    intro nn
    induction nn with
    | zero => intro i o1 hi1 hO1 hm; exfalso; omega
    | succ nn ih10 =>
      intro i o1 hi1 hO1 hm
      refine g_iload_n 1 dX4_markOwners_10 rfl rfl ?_
      refine g_aload_n 0 dX4_markOwners_11 rfl rfl ?_
      refine g_get (C := RX4) (T := TX4) (N := 12) 0 8 (fun _ h => List.mem_cons_of_mem _ (List.mem_append_right _ h)) (List.mem_of_getElem? (i := 2) rfl) rfl rfl (by decide) rfl rfl dX4_markOwners_12 ?_
      refine g_icmp_ge (tgt := 108) (by unfold R32; omega) (by unfold R32; omega) dX4_markOwners_15 rfl (fun c_2 => ?_) (fun c_2 => ?_)
      · exact g_vret hRet dX4_markOwners_108 ⟨o1, (by exact oR_m (fun j s t j0 j1 d nd => by exfalso; omega) hO1), rfl⟩
      · have hqi := hp.2.1 i (by omega) (by omega)
        unfold okQ q4 at hqi
        simp only at hqi
        refine g_aload_n 0 dX4_markOwners_18 rfl rfl ?_
        refine g_iload_n 1 dX4_markOwners_19 rfl rfl ?_
        refine g_iconst dX4_markOwners_20 ?_
        refine g_callV_i (n := 2) (As := [.int (iI i), .int (iI 0)]) (wr := [(w4, aI E 144 o1)]) (C := RX4) [] (c_nb E p0 w1 w2 w3 w4 mk px py pa pb nw np nq zc i 0 (by omega) (by omega) (by omega)) [0, 1] [2] 0 rfl rfl gX4_markOwners_X4_numberOf rfl ⟨rfl, by decide +kernel⟩ ⟨by decide, by decide⟩ rfl rfl rfl rfl rfl (by decide) rfl (by decide) (by decide) (fun _ h => absurd h List.not_mem_nil) dX4_markOwners_21 rfl (Nat.le_of_ble_eq_true rfl) ⟨by decide, by decide⟩ (fun r u p_3 => ?_)
        obtain ⟨rfl, rfl⟩ := p_3
        refine g_perm (ws1 := [(p0, oo 4 [.int (iI mk), .int (iI px), .int (iI py), .int (iI pa), .int (iI pb), .int (iI nw), .ref w1, .ref w2, .int (iI np), .ref w3, .int (iI nq), .ref w4]), (w2, aI E 576 zc), (w4, aI E 144 o1)]) [1, 2, 0] rfl (by decide) rfl ?_
        refine g_top (y := iI (zc (4 * i))) (congrArg iI (by rw [Int.add_zero])) ?_
        refine g_istore_n (lv1 := [(2, .int (iI (zc (4 * i)))), (0, .ref p0), (1, .int (iI i))]) dX4_markOwners_24 rfl (by decide) rfl ?_
        refine g_aload_n 1 dX4_markOwners_25 rfl rfl ?_
        refine g_iload_n 2 dX4_markOwners_26 rfl rfl ?_
        refine g_iconst dX4_markOwners_27 ?_
        refine g_callV_i (n := 2) (As := [.int (iI i), .int (iI 1)]) (wr := [(w4, aI E 144 o1)]) (C := RX4) [] (c_nb E p0 w1 w2 w3 w4 mk px py pa pb nw np nq zc i 1 (by omega) (by omega) (by omega)) [0, 1] [2] 0 rfl rfl gX4_markOwners_X4_numberOf rfl ⟨rfl, by decide +kernel⟩ ⟨by decide, by decide⟩ rfl rfl rfl rfl rfl (by decide) rfl (by decide) (by decide) (fun _ h => absurd h List.not_mem_nil) dX4_markOwners_28 rfl (Nat.le_of_ble_eq_true rfl) ⟨by decide, by decide⟩ (fun r u p_4 => ?_)
        obtain ⟨rfl, rfl⟩ := p_4
        refine g_perm (ws1 := [(p0, oo 4 [.int (iI mk), .int (iI px), .int (iI py), .int (iI pa), .int (iI pb), .int (iI nw), .ref w1, .ref w2, .int (iI np), .ref w3, .int (iI nq), .ref w4]), (w2, aI E 576 zc), (w4, aI E 144 o1)]) [1, 2, 0] rfl (by decide) rfl ?_
        refine g_istore_n (lv1 := [(3, .int (iI (zc (4 * i + 1)))), (2, .int (iI (zc (4 * i)))), (0, .ref p0), (1, .int (iI i))]) dX4_markOwners_31 rfl (by decide) rfl ?_
        refine g_iload_n 0 dX4_markOwners_32 rfl rfl ?_
        refine g_istore (lv1 := [(4, .int (iI (zc (4 * i + 1)))), (3, .int (iI (zc (4 * i + 1)))), (2, .int (iI (zc (4 * i)))), (0, .ref p0), (1, .int (iI i))]) dX4_markOwners_33 (by decide) rfl ?_
        refine g_lv (lv1 := [(0, .ref p0), (1, .int (iI i)), (2, .int (iI (zc (4 * i)))), (3, .int (iI (zc (4 * i + 1)))), (4, .int (iI (zc (4 * i + 1))))]) [3, 4, 2, 1, 0] rfl ?_
        have L35 : ∀ (nn : Nat) (h : Int) (o2 : Int → Int) (hh : zc (4 * i + 1) ≤ h ∧ h ≤ zc (4 * i + 1) + zc (4 * i + 3)) (hO2 : oR zc np o2 (fun j s t => j < i ∨ j = i ∧ t < h)) (hm : zc (4 * i + 1) + zc (4 * i + 3) - h < (nn : Int)), G X ({ frames := 2, cells := 0, slots := 0, locals := 43 } : Room) cX4_markOwners 6 RX4 wsX4_markOwners E [] 0 0 [(p0, oo 4 [.int (iI mk), .int (iI px), .int (iI py), .int (iI pa), .int (iI pb), .int (iI nw), .ref w1, .ref w2, .int (iI np), .ref w3, .int (iI nq), .ref w4]), (w2, aI E 576 zc), (w4, aI E 144 o2)] [(0, .ref p0), (1, .int (iI i)), (2, .int (iI (zc (4 * i)))), (3, .int (iI (zc (4 * i + 1)))), (4, .int (iI h))] 35 [] := by
          intro nn
          induction nn with
          | zero => intro h o2 hh hO2 hm; exfalso; omega
          | succ nn ih35 =>
            intro h o2 hh hO2 hm
            refine g_iload 4 dX4_markOwners_35 rfl ?_
            refine g_iload_n 3 dX4_markOwners_37 rfl rfl ?_
            refine g_aload_n 0 dX4_markOwners_38 rfl rfl ?_
            refine g_iload_n 1 dX4_markOwners_39 rfl rfl ?_
            refine g_iconst dX4_markOwners_40 ?_
            refine g_callV_i (n := 2) (As := [.int (iI i), .int (iI 3)]) (wr := [(w4, aI E 144 o2)]) (C := RX4) [.int (iI (zc (4 * i + 1))), .int (iI h)] (c_nb E p0 w1 w2 w3 w4 mk px py pa pb nw np nq zc i 3 (by omega) (by omega) (by omega)) [0, 1] [2] 0 rfl rfl gX4_markOwners_X4_numberOf rfl ⟨rfl, by decide +kernel⟩ ⟨by decide, by decide⟩ rfl rfl rfl rfl rfl (by decide) rfl (by decide) (by decide) (fun _ h => absurd h List.not_mem_nil) dX4_markOwners_41 rfl (Nat.le_of_ble_eq_true rfl) ⟨by decide, by decide⟩ (fun r u p_5 => ?_)
            obtain ⟨rfl, rfl⟩ := p_5
            refine g_perm (ws1 := [(p0, oo 4 [.int (iI mk), .int (iI px), .int (iI py), .int (iI pa), .int (iI pb), .int (iI nw), .ref w1, .ref w2, .int (iI np), .ref w3, .int (iI nq), .ref w4]), (w2, aI E 576 zc), (w4, aI E 144 o2)]) [1, 2, 0] rfl (by decide) rfl ?_
            refine g_iadd dX4_markOwners_44 ?_
            refine g_icmp_ge (tgt := 102) (by unfold R32; omega) (by unfold R32; omega) dX4_markOwners_45 rfl (fun c_6 => ?_) (fun c_6 => ?_)
            · refine g_iinc (lv1 := [(1, .int (iI (i + 1))), (0, .ref p0), (2, .int (iI (zc (4 * i)))), (3, .int (iI (zc (4 * i + 1)))), (4, .int (iI h))]) 1 dX4_markOwners_102 rfl (by decide) rfl ?_
              refine g_goto (tgt := 10) dX4_markOwners_105 rfl ?_
              refine g_lv (lv1 := [(0, .ref p0), (1, .int (iI (i + 1)))]) [1, 0] rfl ?_
              exact ih10 (i + 1) o2 (by omega) (by refine oR_m (fun j s t j0 j1 d nd => ?_) hO2; (by_cases e : j = i; subst e; unfold cvr q4; simp only; omega; exfalso; omega)) (by omega)
            · refine g_iload_n 2 dX4_markOwners_48 rfl rfl ?_
              refine g_istore (lv1 := [(5, .int (iI (zc (4 * i)))), (0, .ref p0), (1, .int (iI i)), (2, .int (iI (zc (4 * i)))), (3, .int (iI (zc (4 * i + 1)))), (4, .int (iI h))]) dX4_markOwners_49 (by decide) rfl ?_
              refine g_lv (lv1 := [(0, .ref p0), (1, .int (iI i)), (2, .int (iI (zc (4 * i)))), (3, .int (iI (zc (4 * i + 1)))), (4, .int (iI h)), (5, .int (iI (zc (4 * i))))]) [1, 2, 3, 4, 5, 0] rfl ?_
              have L51 : ∀ (nn : Nat) (w : Int) (o3 : Int → Int) (hw : zc (4 * i) ≤ w ∧ w ≤ zc (4 * i) + zc (4 * i + 2)) (hO3 : oR zc np o3 (fun j s t => j < i ∨ j = i ∧ (t < h ∨ t = h ∧ s < w))) (hm : zc (4 * i) + zc (4 * i + 2) - w < (nn : Int)), G X ({ frames := 2, cells := 0, slots := 0, locals := 43 } : Room) cX4_markOwners 6 RX4 wsX4_markOwners E [] 0 0 [(p0, oo 4 [.int (iI mk), .int (iI px), .int (iI py), .int (iI pa), .int (iI pb), .int (iI nw), .ref w1, .ref w2, .int (iI np), .ref w3, .int (iI nq), .ref w4]), (w2, aI E 576 zc), (w4, aI E 144 o3)] [(0, .ref p0), (1, .int (iI i)), (2, .int (iI (zc (4 * i)))), (3, .int (iI (zc (4 * i + 1)))), (4, .int (iI h)), (5, .int (iI w))] 51 [] := by
                intro nn
                induction nn with
                | zero => intro w o3 hw hO3 hm; exfalso; omega
                | succ nn ih51 =>
                  intro w o3 hw hO3 hm
                  refine g_iload 5 dX4_markOwners_51 rfl ?_
                  refine g_iload_n 2 dX4_markOwners_53 rfl rfl ?_
                  refine g_aload_n 0 dX4_markOwners_54 rfl rfl ?_
                  refine g_iload_n 1 dX4_markOwners_55 rfl rfl ?_
                  refine g_iconst dX4_markOwners_56 ?_
                  refine g_callV_i (n := 2) (As := [.int (iI i), .int (iI 2)]) (wr := [(w4, aI E 144 o3)]) (C := RX4) [.int (iI (zc (4 * i))), .int (iI w)] (c_nb E p0 w1 w2 w3 w4 mk px py pa pb nw np nq zc i 2 (by omega) (by omega) (by omega)) [0, 1] [2] 0 rfl rfl gX4_markOwners_X4_numberOf rfl ⟨rfl, by decide +kernel⟩ ⟨by decide, by decide⟩ rfl rfl rfl rfl rfl (by decide) rfl (by decide) (by decide) (fun _ h => absurd h List.not_mem_nil) dX4_markOwners_57 rfl (Nat.le_of_ble_eq_true rfl) ⟨by decide, by decide⟩ (fun r u p_7 => ?_)
                  obtain ⟨rfl, rfl⟩ := p_7
                  refine g_perm (ws1 := [(p0, oo 4 [.int (iI mk), .int (iI px), .int (iI py), .int (iI pa), .int (iI pb), .int (iI nw), .ref w1, .ref w2, .int (iI np), .ref w3, .int (iI nq), .ref w4]), (w2, aI E 576 zc), (w4, aI E 144 o3)]) [1, 2, 0] rfl (by decide) rfl ?_
                  refine g_iadd dX4_markOwners_60 ?_
                  refine g_icmp_ge (tgt := 96) (by unfold R32; omega) (by unfold R32; omega) dX4_markOwners_61 rfl (fun c_8 => ?_) (fun c_8 => ?_)
                  · refine g_iinc (lv1 := [(4, .int (iI (h + 1))), (0, .ref p0), (1, .int (iI i)), (2, .int (iI (zc (4 * i)))), (3, .int (iI (zc (4 * i + 1)))), (5, .int (iI w))]) 4 dX4_markOwners_96 rfl (by decide) rfl ?_
                    refine g_goto (tgt := 35) dX4_markOwners_99 rfl ?_
                    refine g_lv (lv1 := [(0, .ref p0), (1, .int (iI i)), (2, .int (iI (zc (4 * i)))), (3, .int (iI (zc (4 * i + 1)))), (4, .int (iI (h + 1)))]) [1, 2, 3, 4, 0] rfl ?_
                    exact ih35 (h + 1) o3 (by omega) (by refine oR_m (fun j s t j0 j1 d nd => ?_) hO3; (by_cases e : j = i; subst e; unfold cvr q4; simp only; omega; exfalso; omega)) (by omega)
                  · refine g_iload 5 dX4_markOwners_64 rfl ?_
                    refine g_iload 4 dX4_markOwners_66 rfl ?_
                    refine g_callS_i (n := 2) (As := [.int (iI w), .int (iI h)]) (wr := [(p0, oo 4 [.int (iI mk), .int (iI px), .int (iI py), .int (iI pa), .int (iI pb), .int (iI nw), .ref w1, .ref w2, .int (iI np), .ref w3, .int (iI nq), .ref w4]), (w2, aI E 576 zc), (w4, aI E 144 o3)]) [] (c_X4_isSquare E w h (by omega) (by omega)) [] [0, 1, 2] gX4_markOwners_X4_isSquare rfl ⟨rfl, by decide +kernel⟩ ⟨by decide, by decide⟩ rfl rfl rfl rfl rfl (by decide) rfl (by decide) (by decide) (fun _ h => absurd h List.not_mem_nil) dX4_markOwners_68 rfl (Nat.le_of_ble_eq_true rfl) ⟨by decide, by decide⟩ (fun r u p_9 => ?_)
                    obtain ⟨rfl, rfl⟩ := p_9
                    refine g_perm (ws1 := [(p0, oo 4 [.int (iI mk), .int (iI px), .int (iI py), .int (iI pa), .int (iI pb), .int (iI nw), .ref w1, .ref w2, .int (iI np), .ref w3, .int (iI nq), .ref w4]), (w2, aI E 576 zc), (w4, aI E 144 o3)]) [0, 1, 2] rfl (by decide) rfl ?_
                    refine g_if_eq_b (tgt := 90) dX4_markOwners_71 rfl (fun c_10 => ?_) (fun c_10 => ?_)
                    · refine g_aload_n 0 dX4_markOwners_74 rfl rfl ?_
                      refine g_get (C := RX4) (T := TX4) (N := 12) 0 11 (fun _ h => List.mem_cons_of_mem _ (List.mem_append_right _ h)) (List.mem_of_getElem? (i := 1) rfl) rfl rfl (by decide) rfl rfl dX4_markOwners_75 ?_
                      refine g_iload 4 dX4_markOwners_78 rfl ?_
                      refine g_bipush dX4_markOwners_80 rfl ?_
                      refine g_imul dX4_markOwners_82 ?_
                      refine g_iload 5 dX4_markOwners_83 rfl ?_
                      refine g_iadd dX4_markOwners_85 ?_
                      refine g_iload_n 1 dX4_markOwners_86 rfl rfl ?_
                      refine g_iconst dX4_markOwners_87 ?_
                      refine g_iadd dX4_markOwners_88 ?_
                      refine g_iast (ws1 := [(p0, oo 4 [.int (iI mk), .int (iI px), .int (iI py), .int (iI pa), .int (iI pb), .int (iI nw), .ref w1, .ref w2, .int (iI np), .ref w3, .int (iI nq), .ref w4]), (w2, aI E 576 zc), (w4, aI E 144 (up o3 ((h * 12) + w) (i + 1)))]) 2 dX4_markOwners_89 rfl rfl (by decide) (by omega) (by omega) ?_
                      refine g_iinc (lv1 := [(5, .int (iI (w + 1))), (0, .ref p0), (1, .int (iI i)), (2, .int (iI (zc (4 * i)))), (3, .int (iI (zc (4 * i + 1)))), (4, .int (iI h))]) 5 dX4_markOwners_90 rfl (by decide) rfl ?_
                      refine g_goto (tgt := 51) dX4_markOwners_93 rfl ?_
                      refine g_lv (lv1 := [(0, .ref p0), (1, .int (iI i)), (2, .int (iI (zc (4 * i)))), (3, .int (iI (zc (4 * i + 1)))), (4, .int (iI h)), (5, .int (iI (w + 1)))]) [1, 2, 3, 4, 5, 0] rfl ?_
                      exact ih51 (w + 1) (up o3 ((h * 12) + w) (i + 1)) (by omega) (by first | (exfalso; omega) | exact oR_u (i := i) (w := w) (h := h) (by omega) (by omega) (by omega) (by unfold cvr q4; simp only; omega) rfl (fun j s t d nd => by omega) hO3) (by omega)
                    · refine g_iinc (lv1 := [(5, .int (iI (w + 1))), (0, .ref p0), (1, .int (iI i)), (2, .int (iI (zc (4 * i)))), (3, .int (iI (zc (4 * i + 1)))), (4, .int (iI h))]) 5 dX4_markOwners_90 rfl (by decide) rfl ?_
                      refine g_goto (tgt := 51) dX4_markOwners_93 rfl ?_
                      refine g_lv (lv1 := [(0, .ref p0), (1, .int (iI i)), (2, .int (iI (zc (4 * i)))), (3, .int (iI (zc (4 * i + 1)))), (4, .int (iI h)), (5, .int (iI (w + 1)))]) [1, 2, 3, 4, 5, 0] rfl ?_
                      exact ih51 (w + 1) o3 (by omega) (by first | (exfalso; omega) | exact oR_u (i := i) (w := w) (h := h) (by omega) (by omega) (by omega) (by unfold cvr q4; simp only; omega) rfl (fun j s t d nd => by omega) hO3) (by omega)
              exact L51 _ (zc (4 * i)) o2 (by omega) (by refine oR_m (fun j s t j0 j1 d nd => ?_) hO2; (by_cases e : j = i; subst e; unfold cvr q4; simp only; omega; exfalso; omega)) (lt_nn _)
        exact L35 _ (zc (4 * i + 1)) o1 (by omega) (by refine oR_m (fun j s t j0 j1 d nd => ?_) hO1; (by_cases e : j = i; subst e; unfold cvr q4; simp only; omega; exfalso; omega)) (lt_nn _)
  exact L10 _ 0 (bf ((144 : Nat) : Int) 0 oz) (by omega) (by refine fun s t s0 s1 t0 t1 => Or.inl ⟨?_, fun j j0 j1 d => by omega⟩; first | rfl | (unfold bf; rw [if_pos (by omega)])) (lt_nn _)

set_option maxHeartbeats 4000000 in
set_option maxRecDepth 100000 in
theorem c_X4_liesOnTwo (E : Ev) (p0 : Nat) (w1 : Nat) (w2 : Nat) (w3 : Nat) (w4 : Nat) (mk : Int) (px : Int) (py : Int) (pa : Int) (pb : Int) (nw : Int) (np : Int) (nq : Int) (zc : Int → Int) (oz : Int → Int) (i : Int) (hxy : (1 ≤ px ∧ px ≤ 12) ∧ 1 ≤ py ∧ py ≤ 12) (hp : plOk px py np zc) (hi : 0 ≤ i ∧ i < np) (hO : oR zc np oz (fun j _ _ => j < np)) : MI yX4_liesOnTwo wsX4_liesOnTwo ({ frames := 3, cells := 0, slots := 0, locals := 65 } : Room) E [] 0 0 [.ref p0, .int (iI i)] [(p0, oo 4 [.int (iI mk), .int (iI px), .int (iI py), .int (iI pa), .int (iI pb), .int (iI nw), .ref w1, .ref w2, .int (iI np), .ref w3, .int (iI nq), .ref w4]), (w2, aI E 576 zc), (w4, aI E 144 oz)] (fun r u => r = iI (bI (1 < metC zc px py np i)) ∧ u = [(p0, oo 4 [.int (iI mk), .int (iI px), .int (iI py), .int (iI pa), .int (iI pb), .int (iI nw), .ref w1, .ref w2, .int (iI np), .ref w3, .int (iI nq), .ref w4]), (w2, aI E 576 zc), (w4, aI E 144 oz)]) := by
  refine MI.of (cc := cX4_liesOnTwo) (maxL := 8) (own := RX4) (by decide) rfl rfl rfl (Nat.le_of_ble_eq_true rfl) [(0, .ref p0), (1, .int (iI i))] rfl ?_
  intro X hin2 hRet
  have hnp := hp.1
  have hqi := hp.2.1 i hi.1 hi.2
  unfold okQ q4 at hqi
  simp only at hqi
  refine g_aload_n 0 dX4_liesOnTwo_0 rfl rfl ?_
  refine g_iload_n 1 dX4_liesOnTwo_1 rfl rfl ?_
  refine g_iconst dX4_liesOnTwo_2 ?_
  refine g_callV_i (n := 2) (As := [.int (iI i), .int (iI 0)]) (wr := [(w4, aI E 144 oz)]) (C := RX4) [] (c_nb E p0 w1 w2 w3 w4 mk px py pa pb nw np nq zc i 0 (by omega) (by omega) (by omega)) [0, 1] [2] 0 rfl rfl gX4_liesOnTwo_X4_numberOf rfl ⟨rfl, by decide +kernel⟩ ⟨by decide, by decide⟩ rfl rfl rfl rfl rfl (by decide) rfl (by decide) (by decide) (fun _ h => absurd h List.not_mem_nil) dX4_liesOnTwo_3 rfl (Nat.le_of_ble_eq_true rfl) ⟨by decide, by decide⟩ (fun r u p_1 => ?_)
  obtain ⟨rfl, rfl⟩ := p_1
  refine g_perm (ws1 := [(p0, oo 4 [.int (iI mk), .int (iI px), .int (iI py), .int (iI pa), .int (iI pb), .int (iI nw), .ref w1, .ref w2, .int (iI np), .ref w3, .int (iI nq), .ref w4]), (w2, aI E 576 zc), (w4, aI E 144 oz)]) [1, 2, 0] rfl (by decide) rfl ?_
  refine g_top (y := iI (zc (4 * i))) (congrArg iI (by rw [Int.add_zero])) ?_
  refine g_istore_n (lv1 := [(2, .int (iI (zc (4 * i)))), (0, .ref p0), (1, .int (iI i))]) dX4_liesOnTwo_6 rfl (by decide) rfl ?_
  refine g_aload_n 1 dX4_liesOnTwo_7 rfl rfl ?_
  refine g_iload_n 2 dX4_liesOnTwo_8 rfl rfl ?_
  refine g_iconst dX4_liesOnTwo_9 ?_
  refine g_callV_i (n := 2) (As := [.int (iI i), .int (iI 1)]) (wr := [(w4, aI E 144 oz)]) (C := RX4) [] (c_nb E p0 w1 w2 w3 w4 mk px py pa pb nw np nq zc i 1 (by omega) (by omega) (by omega)) [0, 1] [2] 0 rfl rfl gX4_liesOnTwo_X4_numberOf rfl ⟨rfl, by decide +kernel⟩ ⟨by decide, by decide⟩ rfl rfl rfl rfl rfl (by decide) rfl (by decide) (by decide) (fun _ h => absurd h List.not_mem_nil) dX4_liesOnTwo_10 rfl (Nat.le_of_ble_eq_true rfl) ⟨by decide, by decide⟩ (fun r u p_2 => ?_)
  obtain ⟨rfl, rfl⟩ := p_2
  refine g_perm (ws1 := [(p0, oo 4 [.int (iI mk), .int (iI px), .int (iI py), .int (iI pa), .int (iI pb), .int (iI nw), .ref w1, .ref w2, .int (iI np), .ref w3, .int (iI nq), .ref w4]), (w2, aI E 576 zc), (w4, aI E 144 oz)]) [1, 2, 0] rfl (by decide) rfl ?_
  refine g_istore_n (lv1 := [(3, .int (iI (zc (4 * i + 1)))), (2, .int (iI (zc (4 * i)))), (0, .ref p0), (1, .int (iI i))]) dX4_liesOnTwo_13 rfl (by decide) rfl ?_
  refine g_iconst dX4_liesOnTwo_14 ?_
  refine g_istore (lv1 := [(4, .int (iI 0)), (3, .int (iI (zc (4 * i + 1)))), (2, .int (iI (zc (4 * i)))), (0, .ref p0), (1, .int (iI i))]) dX4_liesOnTwo_15 (by decide) rfl ?_
  refine g_iload_n 1 dX4_liesOnTwo_17 rfl rfl ?_
  refine g_istore (lv1 := [(5, .int (iI (zc (4 * i + 1)))), (4, .int (iI 0)), (3, .int (iI (zc (4 * i + 1)))), (2, .int (iI (zc (4 * i)))), (0, .ref p0), (1, .int (iI i))]) dX4_liesOnTwo_18 (by decide) rfl ?_
  refine g_lv (lv1 := [(0, .ref p0), (1, .int (iI i)), (2, .int (iI (zc (4 * i)))), (3, .int (iI (zc (4 * i + 1)))), (4, .int (iI 0)), (5, .int (iI (zc (4 * i + 1))))]) [4, 5, 3, 2, 1, 0] rfl ?_
  have L20 : ∀ (nn : Nat) (f1 : Int) (h : Int) (hh : zc (4 * i + 1) ≤ h ∧ h ≤ zc (4 * i + 1) + zc (4 * i + 3)) (hf1 : 0 ≤ f1 ∧ f1 ≤ 144) (hT1 : tI zc oz px py i f1 (fun s t => t < h)) (hm : zc (4 * i + 1) + zc (4 * i + 3) - h < (nn : Int)), G X ({ frames := 3, cells := 0, slots := 0, locals := 65 } : Room) cX4_liesOnTwo 8 RX4 wsX4_liesOnTwo E [] 0 0 [(p0, oo 4 [.int (iI mk), .int (iI px), .int (iI py), .int (iI pa), .int (iI pb), .int (iI nw), .ref w1, .ref w2, .int (iI np), .ref w3, .int (iI nq), .ref w4]), (w2, aI E 576 zc), (w4, aI E 144 oz)] [(0, .ref p0), (1, .int (iI i)), (2, .int (iI (zc (4 * i)))), (3, .int (iI (zc (4 * i + 1)))), (4, .int (iI f1)), (5, .int (iI h))] 20 [] := by
    intro nn
    induction nn with
    | zero => intro f1 h hh hf1 hT1 hm; exfalso; omega
    | succ nn ih20 =>
      intro f1 h hh hf1 hT1 hm
      refine g_iload 5 dX4_liesOnTwo_20 rfl ?_
      refine g_iload_n 3 dX4_liesOnTwo_22 rfl rfl ?_
      refine g_aload_n 0 dX4_liesOnTwo_23 rfl rfl ?_
      refine g_iload_n 1 dX4_liesOnTwo_24 rfl rfl ?_
      refine g_iconst dX4_liesOnTwo_25 ?_
      refine g_callV_i (n := 2) (As := [.int (iI i), .int (iI 3)]) (wr := [(w4, aI E 144 oz)]) (C := RX4) [.int (iI (zc (4 * i + 1))), .int (iI h)] (c_nb E p0 w1 w2 w3 w4 mk px py pa pb nw np nq zc i 3 (by omega) (by omega) (by omega)) [0, 1] [2] 0 rfl rfl gX4_liesOnTwo_X4_numberOf rfl ⟨rfl, by decide +kernel⟩ ⟨by decide, by decide⟩ rfl rfl rfl rfl rfl (by decide) rfl (by decide) (by decide) (fun _ h => absurd h List.not_mem_nil) dX4_liesOnTwo_26 rfl (Nat.le_of_ble_eq_true rfl) ⟨by decide, by decide⟩ (fun r u p_3 => ?_)
      obtain ⟨rfl, rfl⟩ := p_3
      refine g_perm (ws1 := [(p0, oo 4 [.int (iI mk), .int (iI px), .int (iI py), .int (iI pa), .int (iI pb), .int (iI nw), .ref w1, .ref w2, .int (iI np), .ref w3, .int (iI nq), .ref w4]), (w2, aI E 576 zc), (w4, aI E 144 oz)]) [1, 2, 0] rfl (by decide) rfl ?_
      refine g_iadd dX4_liesOnTwo_29 ?_
      refine g_icmp_ge (tgt := 111) (by unfold R32; omega) (by unfold R32; omega) dX4_liesOnTwo_30 rfl (fun c_4 => ?_) (fun c_4 => ?_)
      · refine g_iconst dX4_liesOnTwo_111 ?_
        exact g_iret hRet dX4_liesOnTwo_112 rfl ⟨(by exact bI_f (hold_f (f := f1) hxy.1 hxy.2 hp hi hO (fun s t c => hT1.2 s t c (by unfold cvr q4 at c; simp only at c; omega)))), rfl⟩
      · refine g_iload_n 2 dX4_liesOnTwo_33 rfl rfl ?_
        refine g_istore (lv1 := [(6, .int (iI (zc (4 * i)))), (0, .ref p0), (1, .int (iI i)), (2, .int (iI (zc (4 * i)))), (3, .int (iI (zc (4 * i + 1)))), (4, .int (iI f1)), (5, .int (iI h))]) dX4_liesOnTwo_34 (by decide) rfl ?_
        refine g_lv (lv1 := [(0, .ref p0), (1, .int (iI i)), (2, .int (iI (zc (4 * i)))), (3, .int (iI (zc (4 * i + 1)))), (4, .int (iI f1)), (5, .int (iI h)), (6, .int (iI (zc (4 * i))))]) [1, 2, 3, 4, 5, 6, 0] rfl ?_
        have L36 : ∀ (nn : Nat) (f2 : Int) (w : Int) (hw : zc (4 * i) ≤ w ∧ w ≤ zc (4 * i) + zc (4 * i + 2)) (hf2 : 0 ≤ f2 ∧ f2 ≤ 144) (hT2 : tI zc oz px py i f2 (fun s t => t < h ∨ t = h ∧ s < w)) (hm : zc (4 * i) + zc (4 * i + 2) - w < (nn : Int)), G X ({ frames := 3, cells := 0, slots := 0, locals := 65 } : Room) cX4_liesOnTwo 8 RX4 wsX4_liesOnTwo E [] 0 0 [(p0, oo 4 [.int (iI mk), .int (iI px), .int (iI py), .int (iI pa), .int (iI pb), .int (iI nw), .ref w1, .ref w2, .int (iI np), .ref w3, .int (iI nq), .ref w4]), (w2, aI E 576 zc), (w4, aI E 144 oz)] [(0, .ref p0), (1, .int (iI i)), (2, .int (iI (zc (4 * i)))), (3, .int (iI (zc (4 * i + 1)))), (4, .int (iI f2)), (5, .int (iI h)), (6, .int (iI w))] 36 [] := by
          intro nn
          induction nn with
          | zero => intro f2 w hw hf2 hT2 hm; exfalso; omega
          | succ nn ih36 =>
            intro f2 w hw hf2 hT2 hm
            refine g_iload 6 dX4_liesOnTwo_36 rfl ?_
            refine g_iload_n 2 dX4_liesOnTwo_38 rfl rfl ?_
            refine g_aload_n 0 dX4_liesOnTwo_39 rfl rfl ?_
            refine g_iload_n 1 dX4_liesOnTwo_40 rfl rfl ?_
            refine g_iconst dX4_liesOnTwo_41 ?_
            refine g_callV_i (n := 2) (As := [.int (iI i), .int (iI 2)]) (wr := [(w4, aI E 144 oz)]) (C := RX4) [.int (iI (zc (4 * i))), .int (iI w)] (c_nb E p0 w1 w2 w3 w4 mk px py pa pb nw np nq zc i 2 (by omega) (by omega) (by omega)) [0, 1] [2] 0 rfl rfl gX4_liesOnTwo_X4_numberOf rfl ⟨rfl, by decide +kernel⟩ ⟨by decide, by decide⟩ rfl rfl rfl rfl rfl (by decide) rfl (by decide) (by decide) (fun _ h => absurd h List.not_mem_nil) dX4_liesOnTwo_42 rfl (Nat.le_of_ble_eq_true rfl) ⟨by decide, by decide⟩ (fun r u p_5 => ?_)
            obtain ⟨rfl, rfl⟩ := p_5
            refine g_perm (ws1 := [(p0, oo 4 [.int (iI mk), .int (iI px), .int (iI py), .int (iI pa), .int (iI pb), .int (iI nw), .ref w1, .ref w2, .int (iI np), .ref w3, .int (iI nq), .ref w4]), (w2, aI E 576 zc), (w4, aI E 144 oz)]) [1, 2, 0] rfl (by decide) rfl ?_
            refine g_iadd dX4_liesOnTwo_45 ?_
            refine g_icmp_ge (tgt := 105) (by unfold R32; omega) (by unfold R32; omega) dX4_liesOnTwo_46 rfl (fun c_6 => ?_) (fun c_6 => ?_)
            · refine g_iinc (lv1 := [(5, .int (iI (h + 1))), (0, .ref p0), (1, .int (iI i)), (2, .int (iI (zc (4 * i)))), (3, .int (iI (zc (4 * i + 1)))), (4, .int (iI f2)), (6, .int (iI w))]) 5 dX4_liesOnTwo_105 rfl (by decide) rfl ?_
              refine g_goto (tgt := 20) dX4_liesOnTwo_108 rfl ?_
              refine g_lv (lv1 := [(0, .ref p0), (1, .int (iI i)), (2, .int (iI (zc (4 * i)))), (3, .int (iI (zc (4 * i + 1)))), (4, .int (iI f2)), (5, .int (iI (h + 1)))]) [1, 2, 3, 4, 5, 0] rfl ?_
              exact ih20 f2 (h + 1) (by omega) (by omega) (by exact tI_m (fun s t c d => by unfold cvr q4 at c; simp only at c; omega) hT2) (by omega)
            · refine g_aload_n 0 dX4_liesOnTwo_49 rfl rfl ?_
              refine g_aload_n 0 dX4_liesOnTwo_50 rfl rfl ?_
              refine g_get (C := RX4) (T := TX4) (N := 12) 0 1 (fun _ h => List.mem_cons_of_mem _ (List.mem_append_right _ h)) (List.mem_of_getElem? (i := 1) rfl) rfl rfl (by decide) rfl rfl dX4_liesOnTwo_51 ?_
              refine g_iconst dX4_liesOnTwo_54 ?_
              refine g_isub dX4_liesOnTwo_55 ?_
              refine g_iload 6 dX4_liesOnTwo_56 rfl ?_
              refine g_isub dX4_liesOnTwo_58 ?_
              refine g_aload_n 0 dX4_liesOnTwo_59 rfl rfl ?_
              refine g_get (C := RX4) (T := TX4) (N := 12) 0 2 (fun _ h => List.mem_cons_of_mem _ (List.mem_append_right _ h)) (List.mem_of_getElem? (i := 2) rfl) rfl rfl (by decide) rfl rfl dX4_liesOnTwo_60 ?_
              refine g_iconst dX4_liesOnTwo_63 ?_
              refine g_isub dX4_liesOnTwo_64 ?_
              refine g_iload 5 dX4_liesOnTwo_65 rfl ?_
              refine g_isub dX4_liesOnTwo_67 ?_
              refine g_callV_i (n := 2) (As := [.int (iI ((px - 1) - w)), .int (iI ((py - 1) - h))]) (wr := [(w2, aI E 576 zc)]) (C := RX4) [] (c_X4_ownerOf E p0 w1 w2 w3 w4 mk px py pa pb nw np nq oz ((px - 1) - w) ((py - 1) - h) (by omega) (by omega)) [0, 2] [1] 0 rfl rfl gX4_liesOnTwo_X4_ownerOf rfl ⟨rfl, by decide +kernel⟩ ⟨by decide, by decide⟩ rfl rfl rfl rfl rfl (by decide) rfl (by decide) (by decide) (fun _ h => absurd h List.not_mem_nil) dX4_liesOnTwo_68 rfl (Nat.le_of_ble_eq_true rfl) ⟨by decide, by decide⟩ (fun r u p_7 => ?_)
              obtain ⟨rfl, rfl⟩ := p_7
              refine g_perm (ws1 := [(p0, oo 4 [.int (iI mk), .int (iI px), .int (iI py), .int (iI pa), .int (iI pb), .int (iI nw), .ref w1, .ref w2, .int (iI np), .ref w3, .int (iI nq), .ref w4]), (w2, aI E 576 zc), (w4, aI E 144 oz)]) [1, 0, 2] rfl (by decide) rfl ?_
              have hbn : 0 ≤ oz ((py - 1 - h) * 12 + (px - 1 - w)) ∧ oz ((py - 1 - h) * 12 + (px - 1 - w)) ≤ 144 := by rcases hO (px - 1 - w) (py - 1 - h) (by omega) (by omega) (by omega) (by omega) with ⟨q, -⟩ | ⟨q1, q2, -⟩ <;> omega
              refine g_istore (lv1 := [(7, .int (iI (oz (((py - 1) - h) * 12 + ((px - 1) - w))))), (0, .ref p0), (1, .int (iI i)), (2, .int (iI (zc (4 * i)))), (3, .int (iI (zc (4 * i + 1)))), (4, .int (iI f2)), (5, .int (iI h)), (6, .int (iI w))]) dX4_liesOnTwo_71 (by decide) rfl ?_
              refine g_iload 5 dX4_liesOnTwo_73 rfl ?_
              refine g_if_ne (tgt := 85) (by unfold R32; omega) dX4_liesOnTwo_75 rfl (fun c_8 => ?_) (fun c_8 => ?_)
              · refine g_iload 0 dX4_liesOnTwo_78 rfl ?_
                refine g_istore (lv1 := [(4, .int (iI (oz (((py - 1) - h) * 12 + ((px - 1) - w))))), (7, .int (iI (oz (((py - 1) - h) * 12 + ((px - 1) - w))))), (0, .ref p0), (1, .int (iI i)), (2, .int (iI (zc (4 * i)))), (3, .int (iI (zc (4 * i + 1)))), (5, .int (iI h)), (6, .int (iI w))]) dX4_liesOnTwo_80 (by decide) rfl ?_
                refine g_goto (tgt := 99) dX4_liesOnTwo_82 rfl ?_
                refine g_iinc (lv1 := [(6, .int (iI (w + 1))), (4, .int (iI (oz (((py - 1) - h) * 12 + ((px - 1) - w))))), (7, .int (iI (oz (((py - 1) - h) * 12 + ((px - 1) - w))))), (0, .ref p0), (1, .int (iI i)), (2, .int (iI (zc (4 * i)))), (3, .int (iI (zc (4 * i + 1)))), (5, .int (iI h))]) 7 dX4_liesOnTwo_99 rfl (by decide) rfl ?_
                refine g_goto (tgt := 36) dX4_liesOnTwo_102 rfl ?_
                refine g_lv (lv1 := [(0, .ref p0), (1, .int (iI i)), (2, .int (iI (zc (4 * i)))), (3, .int (iI (zc (4 * i + 1)))), (4, .int (iI (oz (((py - 1) - h) * 12 + ((px - 1) - w))))), (5, .int (iI h)), (6, .int (iI (w + 1)))]) [3, 4, 5, 6, 1, 7, 0] rfl ?_
                exact ih36 (oz (((py - 1) - h) * 12 + ((px - 1) - w))) (w + 1) (by omega) (by omega) (by have e2 : f2 = 0 := (by omega); rw [e2] at hT2; exact tI_0 (w := w) (h := h) (D := fun s t => t < h ∨ t = h ∧ s < w) (by unfold cvr q4; simp only; omega) rfl (fun s t d => by omega) hT2) (by omega)
              · refine g_iload 0 dX4_liesOnTwo_85 rfl ?_
                refine g_if_eq (tgt := 99) (by unfold R32; omega) dX4_liesOnTwo_87 rfl (fun c_9 => ?_) (fun c_9 => ?_)
                · refine g_iinc (lv1 := [(6, .int (iI (w + 1))), (7, .int (iI (oz (((py - 1) - h) * 12 + ((px - 1) - w))))), (0, .ref p0), (1, .int (iI i)), (2, .int (iI (zc (4 * i)))), (3, .int (iI (zc (4 * i + 1)))), (4, .int (iI f2)), (5, .int (iI h))]) 7 dX4_liesOnTwo_99 rfl (by decide) rfl ?_
                  refine g_goto (tgt := 36) dX4_liesOnTwo_102 rfl ?_
                  refine g_lv (lv1 := [(0, .ref p0), (1, .int (iI i)), (2, .int (iI (zc (4 * i)))), (3, .int (iI (zc (4 * i + 1)))), (4, .int (iI f2)), (5, .int (iI h)), (6, .int (iI (w + 1)))]) [2, 3, 4, 5, 6, 7, 0] rfl ?_
                  exact ih36 f2 (w + 1) (by omega) (by omega) (by exact tI_s (w := w) (h := h) (D := fun s t => t < h ∨ t = h ∧ s < w) (by unfold bn; omega) (fun s t d => by omega) hT2) (by omega)
                · refine g_iload 0 dX4_liesOnTwo_90 rfl ?_
                  refine g_iload 5 dX4_liesOnTwo_92 rfl ?_
                  refine g_icmp_eq (tgt := 99) (by unfold R32; omega) (by unfold R32; omega) dX4_liesOnTwo_94 rfl (fun c_10 => ?_) (fun c_10 => ?_)
                  · refine g_iinc (lv1 := [(6, .int (iI (w + 1))), (7, .int (iI (oz (((py - 1) - h) * 12 + ((px - 1) - w))))), (0, .ref p0), (1, .int (iI i)), (2, .int (iI (zc (4 * i)))), (3, .int (iI (zc (4 * i + 1)))), (4, .int (iI f2)), (5, .int (iI h))]) 7 dX4_liesOnTwo_99 rfl (by decide) rfl ?_
                    refine g_goto (tgt := 36) dX4_liesOnTwo_102 rfl ?_
                    refine g_lv (lv1 := [(0, .ref p0), (1, .int (iI i)), (2, .int (iI (zc (4 * i)))), (3, .int (iI (zc (4 * i + 1)))), (4, .int (iI f2)), (5, .int (iI h)), (6, .int (iI (w + 1)))]) [2, 3, 4, 5, 6, 7, 0] rfl ?_
                    exact ih36 f2 (w + 1) (by omega) (by omega) (by exact tI_s (w := w) (h := h) (D := fun s t => t < h ∨ t = h ∧ s < w) (by unfold bn; omega) (fun s t d => by omega) hT2) (by omega)
                  · refine g_iconst dX4_liesOnTwo_97 ?_
                    exact g_iret hRet dX4_liesOnTwo_98 rfl ⟨(by refine bI_t ?_; rcases hT2.1 with q | ⟨s, t, c, q⟩; exfalso; omega; exact hold_t hxy.1 hxy.2 hp hi hO (s := s) (t := t) (s' := w) (t' := h) c (by unfold cvr q4; simp only; omega) (by omega) (by unfold bn; omega) (by unfold bn at *; omega)), rfl⟩
        exact L36 _ f1 (zc (4 * i)) (by omega) (by omega) (by exact tI_m (fun s t c d => by unfold cvr q4 at c; simp only at c; omega) hT1) (lt_nn _)
  exact L20 _ 0 (zc (4 * i + 1)) (by omega) (by omega) (by exact ⟨Or.inl rfl, fun s t c d => by unfold cvr q4 at c; simp only at c; omega⟩) (lt_nn _)

set_option maxHeartbeats 4000000 in
set_option maxRecDepth 100000 in
theorem c_X4_holding (E : Ev) (p0 : Nat) (w1 : Nat) (w2 : Nat) (w3 : Nat) (w4 : Nat) (mk : Int) (px : Int) (py : Int) (pa : Int) (pb : Int) (nw : Int) (np : Int) (nq : Int) (zc : Int → Int) (oz : Int → Int) (hxy : (1 ≤ px ∧ px ≤ 12) ∧ 1 ≤ py ∧ py ≤ 12) (hp : plOk px py np zc) : MI yX4_holding wsX4_holding ({ frames := 4, cells := 0, slots := 0, locals := 92 } : Room) E [] 0 0 [.ref p0] [(p0, oo 4 [.int (iI mk), .int (iI px), .int (iI py), .int (iI pa), .int (iI pb), .int (iI nw), .ref w1, .ref w2, .int (iI np), .ref w3, .int (iI nq), .ref w4]), (w2, aI E 576 zc), (w4, aI E 144 oz)] (fun r u => ∃ (oz' : Int → Int), r = iI (hldC zc px py np) ∧ u = [(p0, oo 4 [.int (iI mk), .int (iI px), .int (iI py), .int (iI pa), .int (iI pb), .int (iI nw), .ref w1, .ref w2, .int (iI np), .ref w3, .int (iI nq), .ref w4]), (w2, aI E 576 zc), (w4, aI E 144 oz')]) := by
  refine MI.of (cc := cX4_holding) (maxL := 3) (own := RX4) (by decide) rfl rfl rfl (Nat.le_of_ble_eq_true rfl) [(0, .ref p0)] rfl ?_
  intro X hin2 hRet
  have hnp := hp.1
  refine g_aload_n 0 dX4_holding_0 rfl rfl ?_
  refine g_callV_v (n := 0) (As := []) (wr := []) (C := RX4) [] (c_X4_markOwners E p0 w1 w2 w3 w4 mk px py pa pb nw np nq zc oz (by omega) (by exact hp)) [0, 1, 2] [] 0 rfl rfl gX4_holding_X4_markOwners rfl ⟨rfl, by decide +kernel⟩ ⟨by decide, by decide⟩ rfl rfl rfl rfl rfl (by decide) rfl (by decide) (by decide) (fun _ h => absurd h List.not_mem_nil) dX4_holding_1 rfl (Nat.le_of_ble_eq_true rfl) ⟨by decide, by decide⟩ (fun u p_1 => ?_)
  obtain ⟨oz1, hO, rfl⟩ := p_1
  refine g_iconst dX4_holding_4 ?_
  refine g_istore_n (lv1 := [(1, .int (iI 0)), (0, .ref p0)]) dX4_holding_5 rfl (by decide) rfl ?_
  refine g_iconst dX4_holding_6 ?_
  refine g_istore_n (lv1 := [(2, .int (iI 0)), (1, .int (iI 0)), (0, .ref p0)]) dX4_holding_7 rfl (by decide) rfl ?_
  refine g_lv (lv1 := [(0, .ref p0), (1, .int (iI 0)), (2, .int (iI 0))]) [2, 1, 0] rfl ?_
  have L8 : ∀ (nn : Nat) (s : Int) (i : Int) (hi1 : 0 ≤ i ∧ i ≤ np) (hs : s = sI (fun i => bI (1 < metC zc px py np i)) i) (hs2 : 0 ≤ s ∧ s ≤ i) (hm : np - i < (nn : Int)), G X ({ frames := 4, cells := 0, slots := 0, locals := 92 } : Room) cX4_holding 3 RX4 wsX4_holding E [] 0 0 [(p0, oo 4 [.int (iI mk), .int (iI px), .int (iI py), .int (iI pa), .int (iI pb), .int (iI nw), .ref w1, .ref w2, .int (iI np), .ref w3, .int (iI nq), .ref w4]), (w2, aI E 576 zc), (w4, aI E 144 oz1)] [(0, .ref p0), (1, .int (iI s)), (2, .int (iI i))] 8 [] := by
    intro nn
    induction nn with
    | zero => intro s i hi1 hs hs2 hm; exfalso; omega
    | succ nn ih8 =>
      intro s i hi1 hs hs2 hm
      refine g_iload_n 2 dX4_holding_8 rfl rfl ?_
      refine g_aload_n 0 dX4_holding_9 rfl rfl ?_
      refine g_get (C := RX4) (T := TX4) (N := 12) 0 8 (fun _ h => List.mem_cons_of_mem _ (List.mem_append_right _ h)) (List.mem_of_getElem? (i := 1) rfl) rfl rfl (by decide) rfl rfl dX4_holding_10 ?_
      refine g_icmp_ge (tgt := 33) (by unfold R32; omega) (by unfold R32; omega) dX4_holding_13 rfl (fun c_2 => ?_) (fun c_2 => ?_)
      · refine g_iload_n 1 dX4_holding_33 rfl rfl ?_
        exact g_iret hRet dX4_holding_34 rfl ⟨oz1, (congrArg iI (by rw [hs, show i = np by omega]; rfl)), rfl⟩
      · refine g_aload_n 0 dX4_holding_16 rfl rfl ?_
        refine g_iload_n 2 dX4_holding_17 rfl rfl ?_
        refine g_callV_i (n := 1) (As := [.int (iI i)]) (wr := []) (C := RX4) [] (c_X4_liesOnTwo E p0 w1 w2 w3 w4 mk px py pa pb nw np nq zc oz1 i (by omega) (by exact hp) (by omega) (by exact hO)) [0, 1, 2] [] 0 rfl rfl gX4_holding_X4_liesOnTwo rfl ⟨rfl, by decide +kernel⟩ ⟨by decide, by decide⟩ rfl rfl rfl rfl rfl (by decide) rfl (by decide) (by decide) (fun _ h => absurd h List.not_mem_nil) dX4_holding_18 rfl (Nat.le_of_ble_eq_true rfl) ⟨by decide, by decide⟩ (fun r u p_3 => ?_)
        obtain ⟨rfl, rfl⟩ := p_3
        refine g_if_eq_b (tgt := 27) dX4_holding_21 rfl (fun hmt => ?_) (fun hmt => ?_)
        · refine g_iinc (lv1 := [(1, .int (iI (s + 1))), (0, .ref p0), (2, .int (iI i))]) 1 dX4_holding_24 rfl (by decide) rfl ?_
          refine g_iinc (lv1 := [(2, .int (iI (i + 1))), (1, .int (iI (s + 1))), (0, .ref p0)]) 2 dX4_holding_27 rfl (by decide) rfl ?_
          refine g_goto (tgt := 8) dX4_holding_30 rfl ?_
          refine g_lv (lv1 := [(0, .ref p0), (1, .int (iI (s + 1))), (2, .int (iI (i + 1)))]) [2, 1, 0] rfl ?_
          exact ih8 (s + 1) (i + 1) (by omega) (by rw [sI_s _ (by omega), ← hs]; show s + 1 = s + bI _; rw [show bI (1 < metC zc px py np i) = 1 from if_pos hmt]) (by omega) (by omega)
        · refine g_iinc (lv1 := [(2, .int (iI (i + 1))), (0, .ref p0), (1, .int (iI s))]) 2 dX4_holding_27 rfl (by decide) rfl ?_
          refine g_goto (tgt := 8) dX4_holding_30 rfl ?_
          refine g_lv (lv1 := [(0, .ref p0), (1, .int (iI s)), (2, .int (iI (i + 1)))]) [1, 2, 0] rfl ?_
          exact ih8 s (i + 1) (by omega) (by rw [sI_s _ (by omega), ← hs]; show s = s + bI _; rw [show bI (1 < metC zc px py np i) = 0 from if_neg hmt, Int.add_zero]) (by omega) (by omega)
  exact L8 _ 0 0 (by omega) (by rfl) (by omega) (lt_nn _)

set_option maxHeartbeats 4000000 in
set_option maxRecDepth 100000 in
theorem c_X6_holds (E : Ev) (x0 : Nat) (a1 : Nat) (h0 : Nat) (a4 : Nat) (a5 : Nat) (lo : Int) (p0 : Nat) (w1 : Nat) (w2 : Nat) (w3 : Nat) (w4 : Nat) (mk : Int) (px : Int) (py : Int) (pa : Int) (pb : Int) (nw : Int) (np : Int) (nq : Int) (zc : Int → Int) (oz : Int → Int) (hmk : mk = 0 ∨ mk = 1) (hxy : mk = 0 ∨ (1 ≤ px ∧ px ≤ 12) ∧ 1 ≤ py ∧ py ≤ 12) (hp : mk = 0 ∨ plOk px py np zc) : MI yX6_holds wsX6_holds ({ frames := 5, cells := 0, slots := 0, locals := 114 } : Room) E [] 0 0 [.ref x0] [(x0, oo 6 [.ref a1, .ref h0, .ref p0, .ref a4, .ref a5, .int (iI lo)]), (p0, oo 4 [.int (iI mk), .int (iI px), .int (iI py), .int (iI pa), .int (iI pb), .int (iI nw), .ref w1, .ref w2, .int (iI np), .ref w3, .int (iI nq), .ref w4]), (w2, aI E 576 zc), (w4, aI E 144 oz)] (fun r u => ∃ (oz' : Int → Int), r = iI (f_holds mk px py np zc) ∧ u = [(x0, oo 6 [.ref a1, .ref h0, .ref p0, .ref a4, .ref a5, .int (iI lo)]), (p0, oo 4 [.int (iI mk), .int (iI px), .int (iI py), .int (iI pa), .int (iI pb), .int (iI nw), .ref w1, .ref w2, .int (iI np), .ref w3, .int (iI nq), .ref w4]), (w2, aI E 576 zc), (w4, aI E 144 oz')]) := by
  refine MI.of (cc := cX6_holds) (maxL := 1) (own := RX6) (by decide) rfl rfl rfl (Nat.le_of_ble_eq_true rfl) [(0, .ref x0)] rfl ?_
  intro X hin2 hRet
  refine g_aload_n 0 dX6_holds_0 rfl rfl ?_
  refine g_get (C := RX6) (T := TX6) (N := 6) 0 2 (fun _ h => List.mem_cons_of_mem _ (List.mem_append_left _ (List.mem_append_right _ h))) (List.mem_of_getElem? (i := 1) rfl) rfl rfl (by decide) rfl rfl dX6_holds_1 ?_
  refine g_get (C := RX4) (T := TX4) (N := 12) 1 0 (fun _ h => List.mem_cons_of_mem _ (List.mem_append_right _ h)) (List.mem_of_getElem? (i := 2) rfl) rfl rfl (by decide) rfl rfl dX6_holds_4 ?_
  refine g_if_eq (tgt := 20) (by unfold R32; omega) dX6_holds_7 rfl (fun c_1 => ?_) (fun c_1 => ?_)
  · refine g_bipush dX6_holds_20 rfl ?_
    exact g_iret hRet dX6_holds_22 rfl ⟨oz, (congrArg iI (by unfold f_holds; first | (rw [if_pos (by assumption)]; done) | (rw [if_neg (by assumption)]; done))), rfl⟩
  · refine g_aload_n 0 dX6_holds_10 rfl rfl ?_
    refine g_get (C := RX6) (T := TX6) (N := 6) 0 2 (fun _ h => List.mem_cons_of_mem _ (List.mem_append_left _ (List.mem_append_right _ h))) (List.mem_of_getElem? (i := 1) rfl) rfl rfl (by decide) rfl rfl dX6_holds_11 ?_
    refine g_callV_i (n := 0) (As := []) (wr := [(x0, oo 6 [.ref a1, .ref h0, .ref p0, .ref a4, .ref a5, .int (iI lo)])]) (C := RX4) [] (c_X4_holding E p0 w1 w2 w3 w4 mk px py pa pb nw np nq zc oz (by omega) (by exact hp.resolve_left (by assumption))) [1, 2, 3] [0] 0 rfl rfl gX6_holds_X4_holding rfl ⟨rfl, by decide +kernel⟩ ⟨by decide, by decide⟩ rfl rfl rfl rfl rfl (by decide) rfl (by decide) (by decide) (fun _ h => absurd h List.not_mem_nil) dX6_holds_14 rfl (Nat.le_of_ble_eq_true rfl) ⟨by decide, by decide⟩ (fun r u p_2 => ?_)
    obtain ⟨oz_3, rfl, rfl⟩ := p_2
    refine g_goto (tgt := 22) dX6_holds_17 rfl ?_
    exact g_iret hRet dX6_holds_22 rfl ⟨oz_3, (congrArg iI (by unfold f_holds; first | (rw [if_pos (by assumption)]; done) | (rw [if_neg (by assumption)]; done))), rfl⟩

set_option maxHeartbeats 4000000 in
set_option maxRecDepth 100000 in
theorem c_X7_holds (E : Ev) (m0 : Nat) (ra : Nat → Nat) (mm : Int) (nf : Int) (ti : Int) (so : Int) (ta : Int) (go : Int) (sl : Int) (lo : Int) (cn : Int) (lx : Int) (ly : Int) (pm : Int) (pi : Int) (zc : Int → Int) (hlx : 0 ≤ lx ∧ lx ≤ 12) (hly : lx = 0 ∨ 1 ≤ ly ∧ ly ≤ 12) (hp : lx = 0 ∨ plOk lx ly pm zc) : MI yX7_holds wsX7_holds ({ frames := 0, cells := 0, slots := 0, locals := 0 } : Room) E [] 0 0 [.ref m0] [(m0, oo 7 (fMo ra mm nf ti so ta go sl lo cn lx ly pm pi)), (ra 39, aI E 576 zc)] (fun r u => r = iI (f_holds lx lx ly pm zc) ∧ u = [(m0, oo 7 (fMo ra mm nf ti so ta go sl lo cn lx ly pm pi)), (ra 39, aI E 576 zc)]) := by
  refine MI.of (cc := cX7_holds) (maxL := 10) (own := RX7) (by decide) rfl rfl rfl (Nat.le_of_ble_eq_true rfl) [(0, .ref m0)] rfl ?_
  intro X hin2 hRet
  refine g_aload_n 0 dX7_holds_0 rfl rfl ?_
  refine g_get (C := RX7) (T := TX7) (N := 43) 0 35 (fun _ h => List.mem_cons_of_mem _ (List.mem_append_right _ h)) (List.mem_of_getElem? (i := 1) rfl) rfl rfl (by decide) rfl rfl dX7_holds_1 ?_
  refine g_if_ne (tgt := 10) (by unfold R32; omega) dX7_holds_4 rfl (fun c_1 => ?_) (fun c_1 => ?_)
  · refine g_bipush dX7_holds_7 rfl ?_
    exact g_iret hRet dX7_holds_9 rfl ⟨(congrArg iI (by unfold f_holds; first | (rw [if_pos (by assumption)]; done) | (rw [if_neg (by assumption), hs, show i = pm by omega]; rfl))), rfl⟩
  · have hp1 := hp.resolve_left (by assumption)
    have hnp := hp1.1
    have hly1 := hly.resolve_left (by assumption)
    refine g_iconst dX7_holds_10 ?_
    refine g_istore_n (lv1 := [(1, .int (iI 0)), (0, .ref m0)]) dX7_holds_11 rfl (by decide) rfl ?_
    refine g_iconst dX7_holds_12 ?_
    refine g_istore_n (lv1 := [(2, .int (iI 0)), (1, .int (iI 0)), (0, .ref m0)]) dX7_holds_13 rfl (by decide) rfl ?_
    refine g_lv (lv1 := [(0, .ref m0), (1, .int (iI 0)), (2, .int (iI 0))]) [2, 1, 0] rfl ?_
    have L14 : ∀ (nn : Nat) (s : Int) (i : Int) (hi1 : 0 ≤ i ∧ i ≤ pm) (hs : s = sI (fun i => bI (1 < metC zc lx ly pm i)) i) (hs2 : 0 ≤ s ∧ s ≤ i) (hm : pm - i < (nn : Int)), G X ({ frames := 0, cells := 0, slots := 0, locals := 0 } : Room) cX7_holds 10 RX7 wsX7_holds E [] 0 0 [(m0, oo 7 (fMo ra mm nf ti so ta go sl lo cn lx ly pm pi)), (ra 39, aI E 576 zc)] [(0, .ref m0), (1, .int (iI s)), (2, .int (iI i))] 14 [] := by
      intro nn
      induction nn with
      | zero => intro s i hi1 hs hs2 hm; exfalso; omega
      | succ nn ih14 =>
        intro s i hi1 hs hs2 hm
        refine g_iload_n 2 dX7_holds_14 rfl rfl ?_
        refine g_aload_n 0 dX7_holds_15 rfl rfl ?_
        refine g_get (C := RX7) (T := TX7) (N := 43) 0 38 (fun _ h => List.mem_cons_of_mem _ (List.mem_append_right _ h)) (List.mem_of_getElem? (i := 2) rfl) rfl rfl (by decide) rfl rfl dX7_holds_16 ?_
        refine g_icmp_ge (tgt := 234) (by unfold R32; omega) (by unfold R32; omega) dX7_holds_19 rfl (fun c_2 => ?_) (fun c_2 => ?_)
        · refine g_iload_n 1 dX7_holds_234 rfl rfl ?_
          exact g_iret hRet dX7_holds_235 rfl ⟨(congrArg iI (by unfold f_holds; first | (rw [if_pos (by assumption)]; done) | (rw [if_neg (by assumption), hs, show i = pm by omega]; rfl))), rfl⟩
        · have hqi := hp1.2.1 i (by omega) (by omega)
          unfold okQ q4 at hqi
          simp only at hqi
          refine g_aload_n 0 dX7_holds_22 rfl rfl ?_
          refine g_get (C := RX7) (T := TX7) (N := 43) 0 39 (fun _ h => List.mem_cons_of_mem _ (List.mem_append_right _ h)) (List.mem_of_getElem? (i := 3) rfl) rfl rfl (by decide) rfl rfl dX7_holds_23 ?_
          refine g_iconst dX7_holds_26 ?_
          refine g_iload_n 2 dX7_holds_27 rfl rfl ?_
          refine g_imul dX7_holds_28 ?_
          refine g_iconst dX7_holds_29 ?_
          refine g_iadd dX7_holds_30 ?_
          refine g_iald 1 dX7_holds_31 rfl (by decide) (by omega) (by omega) ?_
          refine g_istore_n (lv1 := [(3, .int (iI (zc ((4 * i) + 2)))), (0, .ref m0), (1, .int (iI s)), (2, .int (iI i))]) dX7_holds_32 rfl (by decide) rfl ?_
          refine g_aload_n 1 dX7_holds_33 rfl rfl ?_
          refine g_get (C := RX7) (T := TX7) (N := 43) 0 39 (fun _ h => List.mem_cons_of_mem _ (List.mem_append_right _ h)) (List.mem_of_getElem? (i := 3) rfl) rfl rfl (by decide) rfl rfl dX7_holds_34 ?_
          refine g_iconst dX7_holds_37 ?_
          refine g_iload_n 3 dX7_holds_38 rfl rfl ?_
          refine g_imul dX7_holds_39 ?_
          refine g_iconst dX7_holds_40 ?_
          refine g_iadd dX7_holds_41 ?_
          refine g_iald 1 dX7_holds_42 rfl (by decide) (by omega) (by omega) ?_
          refine g_istore (lv1 := [(4, .int (iI (zc ((4 * i) + 3)))), (3, .int (iI (zc ((4 * i) + 2)))), (0, .ref m0), (1, .int (iI s)), (2, .int (iI i))]) dX7_holds_43 (by decide) rfl ?_
          refine g_aload_n 2 dX7_holds_45 rfl rfl ?_
          refine g_get (C := RX7) (T := TX7) (N := 43) 0 35 (fun _ h => List.mem_cons_of_mem _ (List.mem_append_right _ h)) (List.mem_of_getElem? (i := 1) rfl) rfl rfl (by decide) rfl rfl dX7_holds_46 ?_
          refine g_aload_n 2 dX7_holds_49 rfl rfl ?_
          refine g_get (C := RX7) (T := TX7) (N := 43) 0 39 (fun _ h => List.mem_cons_of_mem _ (List.mem_append_right _ h)) (List.mem_of_getElem? (i := 3) rfl) rfl rfl (by decide) rfl rfl dX7_holds_50 ?_
          refine g_iconst dX7_holds_53 ?_
          refine g_iload_n 4 dX7_holds_54 rfl rfl ?_
          refine g_imul dX7_holds_55 ?_
          refine g_iald 1 dX7_holds_56 rfl (by decide) (by omega) (by omega) ?_
          refine g_isub dX7_holds_57 ?_
          refine g_iload_n 1 dX7_holds_58 rfl rfl ?_
          refine g_isub dX7_holds_59 ?_
          refine g_istore (lv1 := [(5, .int (iI ((lx - (zc (4 * i))) - (zc ((4 * i) + 2))))), (4, .int (iI (zc ((4 * i) + 3)))), (3, .int (iI (zc ((4 * i) + 2)))), (0, .ref m0), (1, .int (iI s)), (2, .int (iI i))]) dX7_holds_60 (by decide) rfl ?_
          refine g_aload_n 3 dX7_holds_62 rfl rfl ?_
          refine g_get (C := RX7) (T := TX7) (N := 43) 0 36 (fun _ h => List.mem_cons_of_mem _ (List.mem_append_right _ h)) (List.mem_of_getElem? (i := 4) rfl) rfl rfl (by decide) rfl rfl dX7_holds_63 ?_
          refine g_aload_n 3 dX7_holds_66 rfl rfl ?_
          refine g_get (C := RX7) (T := TX7) (N := 43) 0 39 (fun _ h => List.mem_cons_of_mem _ (List.mem_append_right _ h)) (List.mem_of_getElem? (i := 3) rfl) rfl rfl (by decide) rfl rfl dX7_holds_67 ?_
          refine g_iconst dX7_holds_70 ?_
          refine g_iload_n 5 dX7_holds_71 rfl rfl ?_
          refine g_imul dX7_holds_72 ?_
          refine g_iconst dX7_holds_73 ?_
          refine g_iadd dX7_holds_74 ?_
          refine g_iald 1 dX7_holds_75 rfl (by decide) (by omega) (by omega) ?_
          refine g_isub dX7_holds_76 ?_
          refine g_iload 1 dX7_holds_77 rfl ?_
          refine g_isub dX7_holds_79 ?_
          refine g_istore (lv1 := [(6, .int (iI ((ly - (zc ((4 * i) + 1))) - (zc ((4 * i) + 3))))), (5, .int (iI ((lx - (zc (4 * i))) - (zc ((4 * i) + 2))))), (4, .int (iI (zc ((4 * i) + 3)))), (3, .int (iI (zc ((4 * i) + 2)))), (0, .ref m0), (1, .int (iI s)), (2, .int (iI i))]) dX7_holds_80 (by decide) rfl ?_
          refine g_iconst dX7_holds_82 ?_
          refine g_istore (lv1 := [(7, .int (iI 0)), (6, .int (iI ((ly - (zc ((4 * i) + 1))) - (zc ((4 * i) + 3))))), (5, .int (iI ((lx - (zc (4 * i))) - (zc ((4 * i) + 2))))), (4, .int (iI (zc ((4 * i) + 3)))), (3, .int (iI (zc ((4 * i) + 2)))), (0, .ref m0), (1, .int (iI s)), (2, .int (iI i))]) dX7_holds_83 (by decide) rfl ?_
          refine g_iconst dX7_holds_85 ?_
          refine g_istore (lv1 := [(8, .int (iI 0)), (7, .int (iI 0)), (6, .int (iI ((ly - (zc ((4 * i) + 1))) - (zc ((4 * i) + 3))))), (5, .int (iI ((lx - (zc (4 * i))) - (zc ((4 * i) + 2))))), (4, .int (iI (zc ((4 * i) + 3)))), (3, .int (iI (zc ((4 * i) + 2)))), (0, .ref m0), (1, .int (iI s)), (2, .int (iI i))]) dX7_holds_86 (by decide) rfl ?_
          refine g_lv (lv1 := [(0, .ref m0), (1, .int (iI s)), (2, .int (iI i)), (3, .int (iI (zc ((4 * i) + 2)))), (4, .int (iI (zc ((4 * i) + 3)))), (5, .int (iI ((lx - (zc (4 * i))) - (zc ((4 * i) + 2))))), (6, .int (iI ((ly - (zc ((4 * i) + 1))) - (zc ((4 * i) + 3))))), (7, .int (iI 0)), (8, .int (iI 0))]) [6, 7, 8, 5, 4, 3, 2, 1, 0] rfl ?_
          have L88 : ∀ (nn : Nat) (mt : Int) (k : Int) (hk : 0 ≤ k ∧ k ≤ pm) (hmt : mt = sI (fun k => bI (zc (4 * k) < lx - zc (4 * i) - zc (4 * i + 2) + zc (4 * i + 2) ∧ lx - zc (4 * i) - zc (4 * i + 2) < zc (4 * k) + zc (4 * k + 2) ∧ zc (4 * k + 1) < ly - zc (4 * i + 1) - zc (4 * i + 3) + zc (4 * i + 3) ∧ ly - zc (4 * i + 1) - zc (4 * i + 3) < zc (4 * k + 1) + zc (4 * k + 3))) k) (hm2 : 0 ≤ mt ∧ mt ≤ k) (hm : pm - k < (nn : Int)), G X ({ frames := 0, cells := 0, slots := 0, locals := 0 } : Room) cX7_holds 10 RX7 wsX7_holds E [] 0 0 [(m0, oo 7 (fMo ra mm nf ti so ta go sl lo cn lx ly pm pi)), (ra 39, aI E 576 zc)] [(0, .ref m0), (1, .int (iI s)), (2, .int (iI i)), (3, .int (iI (zc (4 * i + 2)))), (4, .int (iI (zc (4 * i + 3)))), (5, .int (iI (lx - zc (4 * i) - zc (4 * i + 2)))), (6, .int (iI (ly - zc (4 * i + 1) - zc (4 * i + 3)))), (7, .int (iI mt)), (8, .int (iI k))] 88 [] := by
            intro nn
            induction nn with
            | zero => intro mt k hk hmt hm2 hm; exfalso; omega
            | succ nn ih88 =>
              intro mt k hk hmt hm2 hm
              refine g_iload 8 dX7_holds_88 rfl ?_
              refine g_aload_n 0 dX7_holds_90 rfl rfl ?_
              refine g_get (C := RX7) (T := TX7) (N := 43) 0 38 (fun _ h => List.mem_cons_of_mem _ (List.mem_append_right _ h)) (List.mem_of_getElem? (i := 2) rfl) rfl rfl (by decide) rfl rfl dX7_holds_91 ?_
              refine g_icmp_ge (tgt := 214) (by unfold R32; omega) (by unfold R32; omega) dX7_holds_94 rfl (fun c_3 => ?_) (fun c_3 => ?_)
              · refine g_iload_n 1 dX7_holds_214 rfl rfl ?_
                refine g_iload 7 dX7_holds_215 rfl ?_
                refine g_iconst dX7_holds_217 ?_
                refine g_icmp_le (tgt := 225) (by unfold R32; omega) (by unfold R32; omega) dX7_holds_218 rfl (fun c_4 => ?_) (fun c_4 => ?_)
                · refine g_iconst dX7_holds_225 ?_
                  refine g_iadd dX7_holds_226 ?_
                  refine g_istore_n (lv1 := [(1, .int (iI (s + 0))), (0, .ref m0), (2, .int (iI i)), (3, .int (iI (zc (4 * i + 2)))), (4, .int (iI (zc (4 * i + 3)))), (5, .int (iI (lx - zc (4 * i) - zc (4 * i + 2)))), (6, .int (iI (ly - zc (4 * i + 1) - zc (4 * i + 3)))), (7, .int (iI mt)), (8, .int (iI k))]) dX7_holds_227 rfl (by decide) rfl ?_
                  refine g_iinc (lv1 := [(2, .int (iI (i + 1))), (1, .int (iI (s + 0))), (0, .ref m0), (3, .int (iI (zc (4 * i + 2)))), (4, .int (iI (zc (4 * i + 3)))), (5, .int (iI (lx - zc (4 * i) - zc (4 * i + 2)))), (6, .int (iI (ly - zc (4 * i + 1) - zc (4 * i + 3)))), (7, .int (iI mt)), (8, .int (iI k))]) 2 dX7_holds_228 rfl (by decide) rfl ?_
                  refine g_goto (tgt := 14) dX7_holds_231 rfl ?_
                  refine g_lv (lv1 := [(0, .ref m0), (1, .int (iI (s + 0))), (2, .int (iI (i + 1)))]) [2, 1, 0] rfl ?_
                  exact ih14 (s + 0) (i + 1) (by omega) (by rw [sI_s _ (by omega), ← hs]; (try dsimp only); rw [show metC zc lx ly pm i = mt from by (have e := hmt; rw [show k = pm by omega] at e; exact e.symm)]; first | (rw [show bI (1 < mt) = 1 from if_pos (by omega)]; done) | (rw [show bI (1 < mt) = 0 from if_neg (by omega)]; done)) (by omega) (by omega)
                · refine g_iconst dX7_holds_221 ?_
                  refine g_goto (tgt := 226) dX7_holds_222 rfl ?_
                  refine g_iadd dX7_holds_226 ?_
                  refine g_istore_n (lv1 := [(1, .int (iI (s + 1))), (0, .ref m0), (2, .int (iI i)), (3, .int (iI (zc (4 * i + 2)))), (4, .int (iI (zc (4 * i + 3)))), (5, .int (iI (lx - zc (4 * i) - zc (4 * i + 2)))), (6, .int (iI (ly - zc (4 * i + 1) - zc (4 * i + 3)))), (7, .int (iI mt)), (8, .int (iI k))]) dX7_holds_227 rfl (by decide) rfl ?_
                  refine g_iinc (lv1 := [(2, .int (iI (i + 1))), (1, .int (iI (s + 1))), (0, .ref m0), (3, .int (iI (zc (4 * i + 2)))), (4, .int (iI (zc (4 * i + 3)))), (5, .int (iI (lx - zc (4 * i) - zc (4 * i + 2)))), (6, .int (iI (ly - zc (4 * i + 1) - zc (4 * i + 3)))), (7, .int (iI mt)), (8, .int (iI k))]) 2 dX7_holds_228 rfl (by decide) rfl ?_
                  refine g_goto (tgt := 14) dX7_holds_231 rfl ?_
                  refine g_lv (lv1 := [(0, .ref m0), (1, .int (iI (s + 1))), (2, .int (iI (i + 1)))]) [2, 1, 0] rfl ?_
                  exact ih14 (s + 1) (i + 1) (by omega) (by rw [sI_s _ (by omega), ← hs]; (try dsimp only); rw [show metC zc lx ly pm i = mt from by (have e := hmt; rw [show k = pm by omega] at e; exact e.symm)]; first | (rw [show bI (1 < mt) = 1 from if_pos (by omega)]; done) | (rw [show bI (1 < mt) = 0 from if_neg (by omega)]; done)) (by omega) (by omega)
              · have hqk := hp1.2.1 k (by omega) (by omega)
                unfold okQ q4 at hqk
                simp only at hqk
                refine g_aload_n 0 dX7_holds_97 rfl rfl ?_
                refine g_get (C := RX7) (T := TX7) (N := 43) 0 39 (fun _ h => List.mem_cons_of_mem _ (List.mem_append_right _ h)) (List.mem_of_getElem? (i := 3) rfl) rfl rfl (by decide) rfl rfl dX7_holds_98 ?_
                refine g_iconst dX7_holds_101 ?_
                refine g_iload 8 dX7_holds_102 rfl ?_
                refine g_imul dX7_holds_104 ?_
                refine g_iald 1 dX7_holds_105 rfl (by decide) (by omega) (by omega) ?_
                refine g_iload 5 dX7_holds_106 rfl ?_
                refine g_iload_n 3 dX7_holds_108 rfl rfl ?_
                refine g_iadd dX7_holds_109 ?_
                refine g_icmp_ge (tgt := 190) (by unfold R32; omega) (by unfold R32; omega) dX7_holds_110 rfl (fun c_5 => ?_) (fun c_5 => ?_)
                · refine g_iconst dX7_holds_190 ?_
                  refine g_istore (lv1 := [(9, .int (iI 0)), (0, .ref m0), (1, .int (iI s)), (2, .int (iI i)), (3, .int (iI (zc (4 * i + 2)))), (4, .int (iI (zc (4 * i + 3)))), (5, .int (iI (lx - zc (4 * i) - zc (4 * i + 2)))), (6, .int (iI (ly - zc (4 * i + 1) - zc (4 * i + 3)))), (7, .int (iI mt)), (8, .int (iI k))]) dX7_holds_191 (by decide) rfl ?_
                  refine g_iload 8 dX7_holds_193 rfl ?_
                  refine g_iload 0 dX7_holds_195 rfl ?_
                  refine g_if_eq (tgt := 204) (by unfold R32; omega) dX7_holds_197 rfl (fun _ => ?_) (fun q => absurd q (by decide))
                  refine g_iconst dX7_holds_204 ?_
                  refine g_iadd dX7_holds_205 ?_
                  refine g_istore (lv1 := [(7, .int (iI (mt + 0))), (9, .int (iI 0)), (0, .ref m0), (1, .int (iI s)), (2, .int (iI i)), (3, .int (iI (zc (4 * i + 2)))), (4, .int (iI (zc (4 * i + 3)))), (5, .int (iI (lx - zc (4 * i) - zc (4 * i + 2)))), (6, .int (iI (ly - zc (4 * i + 1) - zc (4 * i + 3)))), (8, .int (iI k))]) dX7_holds_206 (by decide) rfl ?_
                  refine g_iinc (lv1 := [(8, .int (iI (k + 1))), (7, .int (iI (mt + 0))), (9, .int (iI 0)), (0, .ref m0), (1, .int (iI s)), (2, .int (iI i)), (3, .int (iI (zc (4 * i + 2)))), (4, .int (iI (zc (4 * i + 3)))), (5, .int (iI (lx - zc (4 * i) - zc (4 * i + 2)))), (6, .int (iI (ly - zc (4 * i + 1) - zc (4 * i + 3))))]) 9 dX7_holds_208 rfl (by decide) rfl ?_
                  refine g_goto (tgt := 88) dX7_holds_211 rfl ?_
                  refine g_lv (lv1 := [(0, .ref m0), (1, .int (iI s)), (2, .int (iI i)), (3, .int (iI (zc (4 * i + 2)))), (4, .int (iI (zc (4 * i + 3)))), (5, .int (iI (lx - zc (4 * i) - zc (4 * i + 2)))), (6, .int (iI (ly - zc (4 * i + 1) - zc (4 * i + 3)))), (7, .int (iI (mt + 0))), (8, .int (iI (k + 1)))]) [3, 4, 5, 6, 7, 8, 9, 1, 0] rfl ?_
                  exact ih88 (mt + 0) (k + 1) (by omega) (by rw [sI_s _ (by omega), ← hmt]; (try dsimp only); unfold bI; first | (rw [if_pos (by omega)]; done) | (rw [if_neg (by omega)]; done)) (by omega) (by omega)
                · refine g_aload_n 0 dX7_holds_113 rfl rfl ?_
                  refine g_get (C := RX7) (T := TX7) (N := 43) 0 39 (fun _ h => List.mem_cons_of_mem _ (List.mem_append_right _ h)) (List.mem_of_getElem? (i := 3) rfl) rfl rfl (by decide) rfl rfl dX7_holds_114 ?_
                  refine g_iconst dX7_holds_117 ?_
                  refine g_iload 8 dX7_holds_118 rfl ?_
                  refine g_imul dX7_holds_120 ?_
                  refine g_iald 1 dX7_holds_121 rfl (by decide) (by omega) (by omega) ?_
                  refine g_aload_n 0 dX7_holds_122 rfl rfl ?_
                  refine g_get (C := RX7) (T := TX7) (N := 43) 0 39 (fun _ h => List.mem_cons_of_mem _ (List.mem_append_right _ h)) (List.mem_of_getElem? (i := 3) rfl) rfl rfl (by decide) rfl rfl dX7_holds_123 ?_
                  refine g_iconst dX7_holds_126 ?_
                  refine g_iload 8 dX7_holds_127 rfl ?_
                  refine g_imul dX7_holds_129 ?_
                  refine g_iconst dX7_holds_130 ?_
                  refine g_iadd dX7_holds_131 ?_
                  refine g_iald 1 dX7_holds_132 rfl (by decide) (by omega) (by omega) ?_
                  refine g_iadd dX7_holds_133 ?_
                  refine g_iload 5 dX7_holds_134 rfl ?_
                  refine g_icmp_le (tgt := 190) (by unfold R32; omega) (by unfold R32; omega) dX7_holds_136 rfl (fun c_7 => ?_) (fun c_7 => ?_)
                  · refine g_iconst dX7_holds_190 ?_
                    refine g_istore (lv1 := [(9, .int (iI 0)), (0, .ref m0), (1, .int (iI s)), (2, .int (iI i)), (3, .int (iI (zc (4 * i + 2)))), (4, .int (iI (zc (4 * i + 3)))), (5, .int (iI (lx - zc (4 * i) - zc (4 * i + 2)))), (6, .int (iI (ly - zc (4 * i + 1) - zc (4 * i + 3)))), (7, .int (iI mt)), (8, .int (iI k))]) dX7_holds_191 (by decide) rfl ?_
                    refine g_iload 8 dX7_holds_193 rfl ?_
                    refine g_iload 0 dX7_holds_195 rfl ?_
                    refine g_if_eq (tgt := 204) (by unfold R32; omega) dX7_holds_197 rfl (fun _ => ?_) (fun q => absurd q (by decide))
                    refine g_iconst dX7_holds_204 ?_
                    refine g_iadd dX7_holds_205 ?_
                    refine g_istore (lv1 := [(7, .int (iI (mt + 0))), (9, .int (iI 0)), (0, .ref m0), (1, .int (iI s)), (2, .int (iI i)), (3, .int (iI (zc (4 * i + 2)))), (4, .int (iI (zc (4 * i + 3)))), (5, .int (iI (lx - zc (4 * i) - zc (4 * i + 2)))), (6, .int (iI (ly - zc (4 * i + 1) - zc (4 * i + 3)))), (8, .int (iI k))]) dX7_holds_206 (by decide) rfl ?_
                    refine g_iinc (lv1 := [(8, .int (iI (k + 1))), (7, .int (iI (mt + 0))), (9, .int (iI 0)), (0, .ref m0), (1, .int (iI s)), (2, .int (iI i)), (3, .int (iI (zc (4 * i + 2)))), (4, .int (iI (zc (4 * i + 3)))), (5, .int (iI (lx - zc (4 * i) - zc (4 * i + 2)))), (6, .int (iI (ly - zc (4 * i + 1) - zc (4 * i + 3))))]) 9 dX7_holds_208 rfl (by decide) rfl ?_
                    refine g_goto (tgt := 88) dX7_holds_211 rfl ?_
                    refine g_lv (lv1 := [(0, .ref m0), (1, .int (iI s)), (2, .int (iI i)), (3, .int (iI (zc (4 * i + 2)))), (4, .int (iI (zc (4 * i + 3)))), (5, .int (iI (lx - zc (4 * i) - zc (4 * i + 2)))), (6, .int (iI (ly - zc (4 * i + 1) - zc (4 * i + 3)))), (7, .int (iI (mt + 0))), (8, .int (iI (k + 1)))]) [3, 4, 5, 6, 7, 8, 9, 1, 0] rfl ?_
                    exact ih88 (mt + 0) (k + 1) (by omega) (by rw [sI_s _ (by omega), ← hmt]; (try dsimp only); unfold bI; first | (rw [if_pos (by omega)]; done) | (rw [if_neg (by omega)]; done)) (by omega) (by omega)
                  · refine g_aload_n 0 dX7_holds_139 rfl rfl ?_
                    refine g_get (C := RX7) (T := TX7) (N := 43) 0 39 (fun _ h => List.mem_cons_of_mem _ (List.mem_append_right _ h)) (List.mem_of_getElem? (i := 3) rfl) rfl rfl (by decide) rfl rfl dX7_holds_140 ?_
                    refine g_iconst dX7_holds_143 ?_
                    refine g_iload 8 dX7_holds_144 rfl ?_
                    refine g_imul dX7_holds_146 ?_
                    refine g_iconst dX7_holds_147 ?_
                    refine g_iadd dX7_holds_148 ?_
                    refine g_iald 1 dX7_holds_149 rfl (by decide) (by omega) (by omega) ?_
                    refine g_iload 6 dX7_holds_150 rfl ?_
                    refine g_iload 4 dX7_holds_152 rfl ?_
                    refine g_iadd dX7_holds_154 ?_
                    refine g_icmp_ge (tgt := 190) (by unfold R32; omega) (by unfold R32; omega) dX7_holds_155 rfl (fun c_9 => ?_) (fun c_9 => ?_)
                    · refine g_iconst dX7_holds_190 ?_
                      refine g_istore (lv1 := [(9, .int (iI 0)), (0, .ref m0), (1, .int (iI s)), (2, .int (iI i)), (3, .int (iI (zc (4 * i + 2)))), (4, .int (iI (zc (4 * i + 3)))), (5, .int (iI (lx - zc (4 * i) - zc (4 * i + 2)))), (6, .int (iI (ly - zc (4 * i + 1) - zc (4 * i + 3)))), (7, .int (iI mt)), (8, .int (iI k))]) dX7_holds_191 (by decide) rfl ?_
                      refine g_iload 8 dX7_holds_193 rfl ?_
                      refine g_iload 0 dX7_holds_195 rfl ?_
                      refine g_if_eq (tgt := 204) (by unfold R32; omega) dX7_holds_197 rfl (fun _ => ?_) (fun q => absurd q (by decide))
                      refine g_iconst dX7_holds_204 ?_
                      refine g_iadd dX7_holds_205 ?_
                      refine g_istore (lv1 := [(7, .int (iI (mt + 0))), (9, .int (iI 0)), (0, .ref m0), (1, .int (iI s)), (2, .int (iI i)), (3, .int (iI (zc (4 * i + 2)))), (4, .int (iI (zc (4 * i + 3)))), (5, .int (iI (lx - zc (4 * i) - zc (4 * i + 2)))), (6, .int (iI (ly - zc (4 * i + 1) - zc (4 * i + 3)))), (8, .int (iI k))]) dX7_holds_206 (by decide) rfl ?_
                      refine g_iinc (lv1 := [(8, .int (iI (k + 1))), (7, .int (iI (mt + 0))), (9, .int (iI 0)), (0, .ref m0), (1, .int (iI s)), (2, .int (iI i)), (3, .int (iI (zc (4 * i + 2)))), (4, .int (iI (zc (4 * i + 3)))), (5, .int (iI (lx - zc (4 * i) - zc (4 * i + 2)))), (6, .int (iI (ly - zc (4 * i + 1) - zc (4 * i + 3))))]) 9 dX7_holds_208 rfl (by decide) rfl ?_
                      refine g_goto (tgt := 88) dX7_holds_211 rfl ?_
                      refine g_lv (lv1 := [(0, .ref m0), (1, .int (iI s)), (2, .int (iI i)), (3, .int (iI (zc (4 * i + 2)))), (4, .int (iI (zc (4 * i + 3)))), (5, .int (iI (lx - zc (4 * i) - zc (4 * i + 2)))), (6, .int (iI (ly - zc (4 * i + 1) - zc (4 * i + 3)))), (7, .int (iI (mt + 0))), (8, .int (iI (k + 1)))]) [3, 4, 5, 6, 7, 8, 9, 1, 0] rfl ?_
                      exact ih88 (mt + 0) (k + 1) (by omega) (by rw [sI_s _ (by omega), ← hmt]; (try dsimp only); unfold bI; first | (rw [if_pos (by omega)]; done) | (rw [if_neg (by omega)]; done)) (by omega) (by omega)
                    · refine g_aload_n 0 dX7_holds_158 rfl rfl ?_
                      refine g_get (C := RX7) (T := TX7) (N := 43) 0 39 (fun _ h => List.mem_cons_of_mem _ (List.mem_append_right _ h)) (List.mem_of_getElem? (i := 3) rfl) rfl rfl (by decide) rfl rfl dX7_holds_159 ?_
                      refine g_iconst dX7_holds_162 ?_
                      refine g_iload 8 dX7_holds_163 rfl ?_
                      refine g_imul dX7_holds_165 ?_
                      refine g_iconst dX7_holds_166 ?_
                      refine g_iadd dX7_holds_167 ?_
                      refine g_iald 1 dX7_holds_168 rfl (by decide) (by omega) (by omega) ?_
                      refine g_aload_n 0 dX7_holds_169 rfl rfl ?_
                      refine g_get (C := RX7) (T := TX7) (N := 43) 0 39 (fun _ h => List.mem_cons_of_mem _ (List.mem_append_right _ h)) (List.mem_of_getElem? (i := 3) rfl) rfl rfl (by decide) rfl rfl dX7_holds_170 ?_
                      refine g_iconst dX7_holds_173 ?_
                      refine g_iload 8 dX7_holds_174 rfl ?_
                      refine g_imul dX7_holds_176 ?_
                      refine g_iconst dX7_holds_177 ?_
                      refine g_iadd dX7_holds_178 ?_
                      refine g_iald 1 dX7_holds_179 rfl (by decide) (by omega) (by omega) ?_
                      refine g_iadd dX7_holds_180 ?_
                      refine g_iload 6 dX7_holds_181 rfl ?_
                      refine g_icmp_le (tgt := 190) (by unfold R32; omega) (by unfold R32; omega) dX7_holds_183 rfl (fun c_11 => ?_) (fun c_11 => ?_)
                      · refine g_iconst dX7_holds_190 ?_
                        refine g_istore (lv1 := [(9, .int (iI 0)), (0, .ref m0), (1, .int (iI s)), (2, .int (iI i)), (3, .int (iI (zc (4 * i + 2)))), (4, .int (iI (zc (4 * i + 3)))), (5, .int (iI (lx - zc (4 * i) - zc (4 * i + 2)))), (6, .int (iI (ly - zc (4 * i + 1) - zc (4 * i + 3)))), (7, .int (iI mt)), (8, .int (iI k))]) dX7_holds_191 (by decide) rfl ?_
                        refine g_iload 8 dX7_holds_193 rfl ?_
                        refine g_iload 0 dX7_holds_195 rfl ?_
                        refine g_if_eq (tgt := 204) (by unfold R32; omega) dX7_holds_197 rfl (fun _ => ?_) (fun q => absurd q (by decide))
                        refine g_iconst dX7_holds_204 ?_
                        refine g_iadd dX7_holds_205 ?_
                        refine g_istore (lv1 := [(7, .int (iI (mt + 0))), (9, .int (iI 0)), (0, .ref m0), (1, .int (iI s)), (2, .int (iI i)), (3, .int (iI (zc (4 * i + 2)))), (4, .int (iI (zc (4 * i + 3)))), (5, .int (iI (lx - zc (4 * i) - zc (4 * i + 2)))), (6, .int (iI (ly - zc (4 * i + 1) - zc (4 * i + 3)))), (8, .int (iI k))]) dX7_holds_206 (by decide) rfl ?_
                        refine g_iinc (lv1 := [(8, .int (iI (k + 1))), (7, .int (iI (mt + 0))), (9, .int (iI 0)), (0, .ref m0), (1, .int (iI s)), (2, .int (iI i)), (3, .int (iI (zc (4 * i + 2)))), (4, .int (iI (zc (4 * i + 3)))), (5, .int (iI (lx - zc (4 * i) - zc (4 * i + 2)))), (6, .int (iI (ly - zc (4 * i + 1) - zc (4 * i + 3))))]) 9 dX7_holds_208 rfl (by decide) rfl ?_
                        refine g_goto (tgt := 88) dX7_holds_211 rfl ?_
                        refine g_lv (lv1 := [(0, .ref m0), (1, .int (iI s)), (2, .int (iI i)), (3, .int (iI (zc (4 * i + 2)))), (4, .int (iI (zc (4 * i + 3)))), (5, .int (iI (lx - zc (4 * i) - zc (4 * i + 2)))), (6, .int (iI (ly - zc (4 * i + 1) - zc (4 * i + 3)))), (7, .int (iI (mt + 0))), (8, .int (iI (k + 1)))]) [3, 4, 5, 6, 7, 8, 9, 1, 0] rfl ?_
                        exact ih88 (mt + 0) (k + 1) (by omega) (by rw [sI_s _ (by omega), ← hmt]; (try dsimp only); unfold bI; first | (rw [if_pos (by omega)]; done) | (rw [if_neg (by omega)]; done)) (by omega) (by omega)
                      · refine g_iconst dX7_holds_186 ?_
                        refine g_goto (tgt := 191) dX7_holds_187 rfl ?_
                        refine g_istore (lv1 := [(9, .int (iI 1)), (0, .ref m0), (1, .int (iI s)), (2, .int (iI i)), (3, .int (iI (zc (4 * i + 2)))), (4, .int (iI (zc (4 * i + 3)))), (5, .int (iI (lx - zc (4 * i) - zc (4 * i + 2)))), (6, .int (iI (ly - zc (4 * i + 1) - zc (4 * i + 3)))), (7, .int (iI mt)), (8, .int (iI k))]) dX7_holds_191 (by decide) rfl ?_
                        refine g_iload 8 dX7_holds_193 rfl ?_
                        refine g_iload 0 dX7_holds_195 rfl ?_
                        refine g_if_eq (tgt := 204) (by unfold R32; omega) dX7_holds_197 rfl (fun q => absurd q (by decide)) (fun _ => ?_)
                        refine g_iconst dX7_holds_200 ?_
                        refine g_goto (tgt := 205) dX7_holds_201 rfl ?_
                        refine g_iadd dX7_holds_205 ?_
                        refine g_istore (lv1 := [(7, .int (iI (mt + 1))), (9, .int (iI 1)), (0, .ref m0), (1, .int (iI s)), (2, .int (iI i)), (3, .int (iI (zc (4 * i + 2)))), (4, .int (iI (zc (4 * i + 3)))), (5, .int (iI (lx - zc (4 * i) - zc (4 * i + 2)))), (6, .int (iI (ly - zc (4 * i + 1) - zc (4 * i + 3)))), (8, .int (iI k))]) dX7_holds_206 (by decide) rfl ?_
                        refine g_iinc (lv1 := [(8, .int (iI (k + 1))), (7, .int (iI (mt + 1))), (9, .int (iI 1)), (0, .ref m0), (1, .int (iI s)), (2, .int (iI i)), (3, .int (iI (zc (4 * i + 2)))), (4, .int (iI (zc (4 * i + 3)))), (5, .int (iI (lx - zc (4 * i) - zc (4 * i + 2)))), (6, .int (iI (ly - zc (4 * i + 1) - zc (4 * i + 3))))]) 9 dX7_holds_208 rfl (by decide) rfl ?_
                        refine g_goto (tgt := 88) dX7_holds_211 rfl ?_
                        refine g_lv (lv1 := [(0, .ref m0), (1, .int (iI s)), (2, .int (iI i)), (3, .int (iI (zc (4 * i + 2)))), (4, .int (iI (zc (4 * i + 3)))), (5, .int (iI (lx - zc (4 * i) - zc (4 * i + 2)))), (6, .int (iI (ly - zc (4 * i + 1) - zc (4 * i + 3)))), (7, .int (iI (mt + 1))), (8, .int (iI (k + 1)))]) [3, 4, 5, 6, 7, 8, 9, 1, 0] rfl ?_
                        exact ih88 (mt + 1) (k + 1) (by omega) (by rw [sI_s _ (by omega), ← hmt]; (try dsimp only); unfold bI; first | (rw [if_pos (by omega)]; done) | (rw [if_neg (by omega)]; done)) (by omega) (by omega)
          exact L88 _ 0 0 (by omega) (by rfl) (by omega) (lt_nn _)
    exact L14 _ 0 0 (by omega) (by rfl) (by omega) (lt_nn _)

end HOLDS
