section TOURS1
def vC (ch sn : Int → Int) (cg : Int) (rs : Int → Int) (g k : Int) : Int → Int := fun q => f_min ch sn cg k q + rs (ab g q * 6 + q)
def nC (ch sn : Int → Int) (cg : Int) (rs : Int → Int) (wn g k : Int) : Int := nk (bt (df wn g)) (vC ch sn cg rs g k) 6
def lC (ch sn : Int → Int) (cg : Int) (rs : Int → Int) (wn g k : Int) : Int := if nC ch sn cg rs wn g k = -4 then 0 else vC ch sn cg rs g k (nC ch sn cg rs wn g k)
def rOk (rs : Int → Int) : Prop := ∀ g k, 0 ≤ g → g ≤ 63 → 0 ≤ k → k ≤ 5 → 0 ≤ rs (g * 6 + k) ∧ rs (g * 6 + k) ≤ 1000 * (6 - pcn g)
def fT (ch sn : Int → Int) (cg : Int) (rs : Int → Int) (s g k : Int) : Prop := ∀ g' k', (g < g' ∧ g' ≤ 63 ∨ g' = g ∧ k' < k) → 0 ≤ k' → k' ≤ 5 → df g' s = 0 → bt g' k' ≠ 0 → rs (g' * 6 + k') = lC ch sn cg rs s g' k'
def cW (ch sn : Int → Int) (cg : Int) (rs : Int → Int) (wn : Int) : Nat → Int → Int → Int
  | 0, _, k => k
  | n + 1, g, k => if nC ch sn cg rs wn g k = -4 then -4 else cW ch sn cg rs wn n (ab g (nC ch sn cg rs wn g k)) (nC ch sn cg rs wn g k)
theorem fmin_b {ch sn : Int → Int} {cg a b : Int} (hch : ∀ i, 0 ≤ ch i ∧ ch i ≤ 500) (hcg : 0 ≤ cg ∧ cg ≤ 500) : 0 ≤ f_min ch sn cg a b ∧ f_min ch sn cg a b ≤ 1000 := by
  have := hch (6 * a + b)
  unfold f_min
  split <;> omega
theorem vC_b {ch sn : Int → Int} {cg g k q : Int} {rs : Int → Int} (hch : ∀ i, 0 ≤ ch i ∧ ch i ≤ 500) (hcg : 0 ≤ cg ∧ cg ≤ 500) (hrs : rOk rs) (hg : 0 ≤ g ∧ g ≤ 63) (hq : 0 ≤ q ∧ q ≤ 5) : 0 ≤ vC ch sn cg rs g k q ∧ vC ch sn cg rs g k q ≤ 7000 := by
  have h1 := fmin_b (sn := sn) (a := k) (b := q) hch hcg
  have h2 := fin1 hg hq
  have h3 := hrs (ab g q) q h2.2.2.2.1.1 h2.2.2.2.1.2 hq.1 hq.2
  have h4 := (fin1 h2.2.2.2.1 hq).2.2.2.2.2.2
  unfold vC
  omega
theorem nC_sp {ch sn : Int → Int} {cg wn g k : Int} {rs : Int → Int} : (nC ch sn cg rs wn g k = -4 ∧ ∀ q : Int, 0 ≤ q → q < 6 → bt (df wn g) q = 0) ∨ (0 ≤ nC ch sn cg rs wn g k ∧ nC ch sn cg rs wn g k < 6 ∧ bt (df wn g) (nC ch sn cg rs wn g k) ≠ 0 ∧ ∀ q : Int, 0 ≤ q → q < 6 → bt (df wn g) q ≠ 0 → vC ch sn cg rs g k (nC ch sn cg rs wn g k) ≤ vC ch sn cg rs g k q ∧ (vC ch sn cg rs g k q = vC ch sn cg rs g k (nC ch sn cg rs wn g k) → nC ch sn cg rs wn g k ≤ q)) := nk_sp _ _ (by omega)
theorem nC_b {ch sn : Int → Int} {cg wn g k : Int} {rs : Int → Int} : nC ch sn cg rs wn g k = -4 ∨ (0 ≤ nC ch sn cg rs wn g k ∧ nC ch sn cg rs wn g k ≤ 5) := by
  rcases nC_sp (ch := ch) (sn := sn) (cg := cg) (wn := wn) (g := g) (k := k) (rs := rs) with h | h <;> omega
theorem lC_b {ch sn : Int → Int} {cg s g k : Int} {rs : Int → Int} (hch : ∀ i, 0 ≤ ch i ∧ ch i ≤ 500) (hcg : 0 ≤ cg ∧ cg ≤ 500) (hrs : rOk rs) (hs : 0 ≤ s ∧ s ≤ 63) (hg : 0 ≤ g ∧ g ≤ 63) : 0 ≤ lC ch sn cg rs s g k ∧ lC ch sn cg rs s g k ≤ 1000 * (6 - pcn g) := by
  have h6 := (fin1 hg (k := 0) ⟨by omega, by omega⟩).2.2.2.2.2.2
  unfold lC
  rcases nC_sp (ch := ch) (sn := sn) (cg := cg) (wn := s) (g := g) (k := k) (rs := rs) with ⟨h, -⟩ | ⟨h1, h2, h3, -⟩
  · rw [if_pos h]; omega
  · rw [if_neg (by omega)]
    generalize nC ch sn cg rs s g k = q at *
    have e1 := fmin_b (sn := sn) (a := k) (b := q) hch hcg
    have e2 := fin1 hg (k := q) ⟨h1, by omega⟩
    have e3 := hrs (ab g q) q e2.2.2.2.1.1 e2.2.2.2.1.2 h1 (by omega)
    have e4 := e2.2.2.2.2.2.1 ((fin3 hs hg (q := q) ⟨h1, by omega⟩).2 h3).1
    unfold vC
    omega
theorem rOk_up {rs : Int → Int} {g k x : Int} (hrs : rOk rs) (hk : 0 ≤ k ∧ k ≤ 5) (hx : 0 ≤ x ∧ x ≤ 1000 * (6 - pcn g)) : rOk (up rs (g * 6 + k) x) := by
  intro g' k' a b c d
  by_cases e : g' * 6 + k' = g * 6 + k
  · have : g' = g := by omega
    rw [e, up_s, this]; exact hx
  · rw [up_n _ _ e]; exact hrs g' k' a b c d
theorem vC_up {ch sn : Int → Int} {cg s g k x g' k' q : Int} {rs : Int → Int} (hs : 0 ≤ s ∧ s ≤ 63) (hk : 0 ≤ k ∧ k ≤ 5) (hg' : 0 ≤ g' ∧ g' ≤ 63) (hgg : g ≤ g') (hq : 0 ≤ q ∧ q ≤ 5) (hb : bt (df s g') q ≠ 0) : vC ch sn cg (up rs (g * 6 + k) x) g' k' q = vC ch sn cg rs g' k' q := by
  have e2 := fin1 hg' hq
  have e4 := e2.2.2.2.2.2.1 ((fin3 hs hg' hq).2 hb).1
  unfold vC
  rw [up_n _ _ (by omega)]
theorem lC_up {ch sn : Int → Int} {cg s g k x g' k' : Int} {rs : Int → Int} (hs : 0 ≤ s ∧ s ≤ 63) (hk : 0 ≤ k ∧ k ≤ 5) (hg' : 0 ≤ g' ∧ g' ≤ 63) (hgg : g ≤ g') : lC ch sn cg (up rs (g * 6 + k) x) s g' k' = lC ch sn cg rs s g' k' := by
  have e : nC ch sn cg (up rs (g * 6 + k) x) s g' k' = nC ch sn cg rs s g' k' := nk_c (by omega) (fun q q0 q1 qb => vC_up hs hk hg' hgg ⟨q0, by omega⟩ qb)
  unfold lC
  rw [e]
  rcases nC_sp (ch := ch) (sn := sn) (cg := cg) (wn := s) (g := g') (k := k') (rs := rs) with ⟨h, -⟩ | ⟨h1, h2, h3, -⟩
  · rw [if_pos h, if_pos h]
  · rw [if_neg (by omega), if_neg (by omega), vC_up hs hk hg' hgg ⟨h1, by omega⟩ h3]
theorem fT_s {ch sn : Int → Int} {cg s g k : Int} {rs : Int → Int} (h : fT ch sn cg rs s g k) (hs : 0 ≤ s ∧ s ≤ 63) (hg : 0 ≤ g ∧ g ≤ 63) (hk : 0 ≤ k ∧ k ≤ 5) : fT ch sn cg (up rs (g * 6 + k) (lC ch sn cg rs s g k)) s g (k + 1) := by
  intro g' k' a b c d e
  rw [lC_up hs hk (by omega) (by omega)]
  by_cases z : g' * 6 + k' = g * 6 + k
  · have z1 : g' = g := by omega
    have z2 : k' = k := by omega
    rw [z, up_s, z1, z2]
  · rw [up_n _ _ z]
    exact h g' k' (by omega) b c d e
theorem fT_n {ch sn : Int → Int} {cg s g k : Int} {rs : Int → Int} (h : fT ch sn cg rs s g k) (hn : ¬ df g s = 0 ∨ bt g k = 0) : fT ch sn cg rs s g (k + 1) := by
  intro g' k' a b c d e
  by_cases z : g' = g ∧ k' = k
  · rw [z.1] at d e; rw [z.2] at e
    rcases hn with hn | hn
    · exact absurd d hn
    · exact absurd hn e
  · exact h g' k' (by omega) b c d e
theorem fT_o {ch sn : Int → Int} {cg s g : Int} {rs : Int → Int} (h : fT ch sn cg rs s g 6) : fT ch sn cg rs s (g + -1) 0 := fun g' k' a b c d e => h g' k' (by omega) b c d e
theorem fT_t {ch sn : Int → Int} {cg s : Int} {rs : Int → Int} (h : fT ch sn cg rs s 0 0) (hs : 0 ≤ s ∧ s ≤ 63) (n : Nat) (g k : Int) (hg : 1 ≤ g ∧ g ≤ 63) (hk : 0 ≤ k ∧ k ≤ 5) (hd : df g s = 0) (hb : bt g k ≠ 0) (hp : pcn (df s g) ≤ n) : rs (g * 6 + k) = tT (f_min ch sn cg) n k (df s g) := by
  refine tT_u (f_min ch sn cg) (α := Int × Int) (fun x => (1 ≤ x.1 ∧ x.1 ≤ 63) ∧ (0 ≤ x.2 ∧ x.2 ≤ 5) ∧ df x.1 s = 0 ∧ bt x.1 x.2 ≠ 0) (fun x => df s x.1) (fun x => x.2) (fun x q => (ab x.1 q, q)) (fun x => rs (x.1 * 6 + x.2)) ?_ ?_ ?_ n (g, k) ⟨hg, hk, hd, hb⟩ hp
  · rintro ⟨g, k⟩ ⟨a, b, c, d⟩
    exact (fin2 hs (by exact ⟨by have := a.1; simp only at this; omega, a.2⟩)).1
  · rintro ⟨g, k⟩ q ⟨a, b, c, d⟩ q0 q1 qb
    simp only at a b c d qb ⊢
    have f3 := fin3 hs (g := g) (by omega) (q := q) ⟨q0, q1⟩
    have f1 := fin1 (s := g) (by omega) (k := q) ⟨q0, q1⟩
    have f4 := f1.2.2.2.2.2.1 (f3.2 qb).1
    exact ⟨⟨by omega, ⟨q0, q1⟩, (f3.2 qb).2 c, f1.2.2.2.2.1⟩, f3.1, trivial⟩
  · rintro ⟨g, k⟩ ⟨a, b, c, d⟩
    simp only at a b c d ⊢
    rw [h g k (by omega) b.1 b.2 c d]
    unfold lC
    have e1 := (fin2 hs (g := g) (by omega)).1
    by_cases z : df s g = 0
    · rw [if_pos (show nC ch sn cg rs s g k = -4 from (nk_bt _ e1).mpr z), if_pos z]
    · rw [if_neg (show ¬ nC ch sn cg rs s g k = -4 from fun q => z ((nk_bt _ e1).mp q)), if_neg z]; rfl
theorem tourC_l {ch sn : Int → Int} {cg s f : Int} {rs : Int → Int} (h : fT ch sn cg rs s 0 0) (hs : 0 ≤ s ∧ s ≤ 63) (hf : 0 ≤ f ∧ f ≤ 5) (hb : bt s f ≠ 0) : rs (ab 0 f * 6 + f) = tT (f_min ch sn cg) 6 f (rb s f) := by
  have f5 := fin5 hs hf
  have f1 := fin1 (s := 0) (by omega) hf
  have z : bt 0 f = 0 := by
    have e : ∀ k : Nat, k < 6 → bt 0 (k : Int) = 0 := by decide
    have := e f.toNat (by omega)
    rw [show ((f.toNat : Nat) : Int) = f by omega] at this
    exact this
  have f6 := f1.2.2.2.2.2.1 z
  have f7 := (fin1 (fin1 hs hf).2.1 hf).2.2.2.2.2.2
  rw [← f5.1]
  exact fT_t h hs 6 _ f (by omega) hf (f5.2 hb) f1.2.2.2.2.1 (by rw [f5.1]; omega)
theorem cW_t {ch sn : Int → Int} {cg s : Int} {rs : Int → Int} (h : fT ch sn cg rs s 0 0) (hs : 0 ≤ s ∧ s ≤ 63) : ∀ (n : Nat) (g k : Int), 1 ≤ g ∧ g ≤ 63 → 0 ≤ k ∧ k ≤ 5 → df g s = 0 → bt g k ≠ 0 → cW ch sn cg rs s n g k = tW (f_min ch sn cg) n k (df s g)
  | 0, g, k, hg, hk, hd, hb => rfl
  | n + 1, g, k, hg, hk, hd, hb => by
    have e1 := (fin2 hs (g := g) (by omega)).1
    have e : nC ch sn cg rs s g k = tN (f_min ch sn cg) k (df s g) := by
      refine nk_c (by omega) (fun q q0 q1 qb => ?_)
      have f3 := fin3 hs (g := g) (by omega) (q := q) ⟨q0, by omega⟩
      have f1 := fin1 (s := g) (by omega) (k := q) ⟨q0, by omega⟩
      have f4 := f1.2.2.2.2.2.1 (f3.2 qb).1
      have f7 := (fin1 (fin1 e1 (k := q) ⟨q0, by omega⟩).2.1 hk).2.2.2.2.2.2
      unfold vC
      rw [fT_t h hs 6 (ab g q) q (by omega) ⟨q0, by omega⟩ ((f3.2 qb).2 hd) f1.2.2.2.2.1 (by rw [f3.1]; omega), f3.1]
    show (if nC ch sn cg rs s g k = -4 then -4 else cW ch sn cg rs s n (ab g (nC ch sn cg rs s g k)) (nC ch sn cg rs s g k)) = if df s g = 0 then -4 else tW (f_min ch sn cg) n (tN (f_min ch sn cg) k (df s g)) (rb (df s g) (tN (f_min ch sn cg) k (df s g)))
    rw [← e]
    rcases nC_sp (ch := ch) (sn := sn) (cg := cg) (wn := s) (g := g) (k := k) (rs := rs) with ⟨z, -⟩ | ⟨h1, h2, h3, -⟩
    · rw [if_pos z, if_pos ((nk_bt _ e1).mp z)]
    · rw [if_neg (by omega), if_neg (fun q => by have := (nk_bt (vC ch sn cg rs g k) e1).mpr q; unfold nC at h1; omega)]
      generalize nC ch sn cg rs s g k = q at *
      have f3 := fin3 hs (g := g) (by omega) (q := q) ⟨h1, by omega⟩
      have f1 := fin1 (s := g) (by omega) (k := q) ⟨h1, by omega⟩
      have f4 := f1.2.2.2.2.2.1 (f3.2 h3).1
      rw [cW_t h hs n (ab g q) q (by omega) ⟨h1, by omega⟩ ((f3.2 h3).2 hd) f1.2.2.2.2.1, f3.1]
theorem tourC_w {ch sn : Int → Int} {cg s f i : Int} {rs : Int → Int} (h : fT ch sn cg rs s 0 0) (hs : 0 ≤ s ∧ s ≤ 63) (hf : 0 ≤ f ∧ f ≤ 5) (hb : bt s f ≠ 0) (hi : 0 ≤ i) : (if 6 ≤ i then -4 else cW ch sn cg rs s i.toNat (ab 0 f) f) = tW (f_min ch sn cg) i.toNat f (rb s f) := by
  have f0 := fin1 hs hf
  have f5 := fin5 hs hf
  by_cases e : 6 ≤ i
  · rw [if_pos e]
    have f8 := f0.2.2.1 hb
    exact (tW_4 _ _ _ _ f0.2.1 (by omega)).symm
  · rw [if_neg e]
    have f1 := fin1 (s := 0) (by omega) hf
    have z : bt 0 f = 0 := by
      have e : ∀ k : Nat, k < 6 → bt 0 (k : Int) = 0 := by decide
      have := e f.toNat (by omega)
      rw [show ((f.toNat : Nat) : Int) = f by omega] at this
      exact this
    have f6 := f1.2.2.2.2.2.1 z
    rw [cW_t h hs _ (ab 0 f) f (by omega) hf (f5.2 hb) f1.2.2.2.2.1, f5.1]

set_option maxHeartbeats 4000000 in
set_option maxRecDepth 100000 in
theorem c_X5_isIn (E : Ev) (s : Int) (k : Int) (hs : 0 ≤ s ∧ s ≤ 63) (hk : 0 ≤ k ∧ k ≤ 5) : MI yX5_isIn wsX5_isIn ({ frames := 0, cells := 0, slots := 0, locals := 0 } : Room) E [] 0 0 [.int (iI s), .int (iI k)] [] (fun r u => r = iI (bI (¬ bt s k = 0)) ∧ u = []) := by
  refine MI.of (cc := cX5_isIn) (maxL := 2) (own := RX5) (by decide) rfl rfl rfl (Nat.le_of_ble_eq_true rfl) [(0, .int (iI s)), (1, .int (iI k))] rfl ?_
  intro X hin2 hRet
  refine g_iload_n 0 dX5_isIn_0 rfl rfl ?_
  refine g_iload_n 1 dX5_isIn_1 rfl rfl ?_
  refine g_ishr dX5_isIn_2 ?_
  refine g_iconst dX5_isIn_3 ?_
  refine g_iand dX5_isIn_4 ?_
  refine g_top (y := iI (bt s k)) (b32 hs hk).1 ?_
  refine g_if_eq (tgt := 12) (by have q9 := (fin1 hs hk).1; unfold R32; omega) dX5_isIn_5 rfl (fun c_1 => ?_) (fun c_1 => ?_)
  · refine g_iconst dX5_isIn_12 ?_
    exact g_iret hRet dX5_isIn_13 rfl ⟨(bI_f (by omega)), rfl⟩
  · refine g_iconst dX5_isIn_8 ?_
    refine g_goto (tgt := 13) dX5_isIn_9 rfl ?_
    exact g_iret hRet dX5_isIn_13 rfl ⟨(bI_t (by omega)), rfl⟩

set_option maxHeartbeats 4000000 in
set_option maxRecDepth 100000 in
theorem c_X5_minutes (E : Ev) (a4 : Nat) (u1 : Nat) (u2 : Nat) (u3 : Nat) (wn : Int) (cg : Int) (ch : Int → Int) (sn : Int → Int) (a : Int) (b : Int) (ha : 0 ≤ a ∧ a ≤ 5) (hb : 0 ≤ b ∧ b ≤ 5) (hsn : ∀ i, 0 ≤ sn i ∧ sn i ≤ 3) : MI yX5_minutes wsX5_minutes ({ frames := 1, cells := 0, slots := 0, locals := 20 } : Room) E [] 0 0 [.ref a4, .int (iI a), .int (iI b)] [(a4, oo 5 [.ref u1, .ref u2, .ref u3, .int (iI wn), .int (iI cg)]), (u1, aI E 36 ch), (u2, aI E 6 sn)] (fun r u => r = iI (f_min ch sn cg a b) ∧ u = [(a4, oo 5 [.ref u1, .ref u2, .ref u3, .int (iI wn), .int (iI cg)]), (u1, aI E 36 ch), (u2, aI E 6 sn)]) := by
  refine MI.of (cc := cX5_minutes) (maxL := 4) (own := RX5) (by decide) rfl rfl rfl (Nat.le_of_ble_eq_true rfl) [(0, .ref a4), (1, .int (iI a)), (2, .int (iI b))] rfl ?_
  intro X hin2 hRet
  refine g_iload_n 1 dX5_minutes_0 rfl rfl ?_
  refine g_callN_i (n := 1) (As := [.int (iI a)]) (wr := [(a4, oo 5 [.ref u1, .ref u2, .ref u3, .int (iI wn), .int (iI cg)]), (u1, aI E 36 ch), (u2, aI E 6 sn)]) [] (c_X6_isKind E a (by omega)) [] [0, 1, 2] gX5_minutes_X6_isKind_n59 (fun _ h => h.2.2.2.2.2.2.2.2.2.1) (List.mem_of_getElem? (i := 5) rfl) (List.mem_of_getElem? (i := 4) rfl) rfl (by decide +kernel) ⟨by decide, by decide⟩ rfl rfl rfl rfl rfl (by decide) rfl (by decide) (by decide) (fun _ h => absurd h List.not_mem_nil) dX5_minutes_1 rfl (Nat.le_of_ble_eq_true rfl) ⟨by decide, by decide⟩ (fun r u p_1 => ?_)
  obtain ⟨rfl, rfl⟩ := p_1
  refine g_perm (ws1 := [(a4, oo 5 [.ref u1, .ref u2, .ref u3, .int (iI wn), .int (iI cg)]), (u1, aI E 36 ch), (u2, aI E 6 sn)]) [0, 1, 2] rfl (by decide) rfl ?_
  refine g_if_eq_b (tgt := 14) dX5_minutes_4 rfl (fun c_2 => ?_) (fun c_2 => ?_)
  · refine g_iload_n 2 dX5_minutes_7 rfl rfl ?_
    refine g_callN_i (n := 1) (As := [.int (iI b)]) (wr := [(a4, oo 5 [.ref u1, .ref u2, .ref u3, .int (iI wn), .int (iI cg)]), (u1, aI E 36 ch), (u2, aI E 6 sn)]) [] (c_X6_isKind E b (by omega)) [] [0, 1, 2] gX5_minutes_X6_isKind_n59 (fun _ h => h.2.2.2.2.2.2.2.2.2.1) (List.mem_of_getElem? (i := 5) rfl) (List.mem_of_getElem? (i := 4) rfl) rfl (by decide +kernel) ⟨by decide, by decide⟩ rfl rfl rfl rfl rfl (by decide) rfl (by decide) (by decide) (fun _ h => absurd h List.not_mem_nil) dX5_minutes_8 rfl (Nat.le_of_ble_eq_true rfl) ⟨by decide, by decide⟩ (fun r u p_3 => ?_)
    obtain ⟨rfl, rfl⟩ := p_3
    refine g_perm (ws1 := [(a4, oo 5 [.ref u1, .ref u2, .ref u3, .int (iI wn), .int (iI cg)]), (u1, aI E 36 ch), (u2, aI E 6 sn)]) [0, 1, 2] rfl (by decide) rfl ?_
    refine g_if_ne_b (tgt := 16) dX5_minutes_11 rfl (fun c_4 => ?_) (fun c_4 => ?_)
    · refine g_aload_n 0 dX5_minutes_16 rfl rfl ?_
      refine g_get (C := RX5) (T := TX5) (N := 5) 0 1 (fun _ h => List.mem_cons_of_mem _ (List.mem_append_right _ h)) (List.mem_of_getElem? (i := 1) rfl) rfl rfl (by decide) rfl rfl dX5_minutes_17 ?_
      refine g_iload_n 1 dX5_minutes_20 rfl rfl ?_
      refine g_iald 2 dX5_minutes_21 rfl (by decide) (by omega) (by omega) ?_
      have q_5 := hsn a
      refine g_aload_n 0 dX5_minutes_22 rfl rfl ?_
      refine g_get (C := RX5) (T := TX5) (N := 5) 0 1 (fun _ h => List.mem_cons_of_mem _ (List.mem_append_right _ h)) (List.mem_of_getElem? (i := 1) rfl) rfl rfl (by decide) rfl rfl dX5_minutes_23 ?_
      refine g_iload_n 2 dX5_minutes_26 rfl rfl ?_
      refine g_iald 2 dX5_minutes_27 rfl (by decide) (by omega) (by omega) ?_
      have q_6 := hsn b
      refine g_icmp_le (tgt := 38) (by unfold R32; omega) (by unfold R32; omega) dX5_minutes_28 rfl (fun c_7 => ?_) (fun c_7 => ?_)
      · refine g_iconst dX5_minutes_38 ?_
        refine g_istore_n (lv1 := [(3, .int (iI 0)), (0, .ref a4), (1, .int (iI a)), (2, .int (iI b))]) dX5_minutes_39 rfl (by decide) rfl ?_
        refine g_aload_n 1 dX5_minutes_40 rfl rfl ?_
        refine g_get (C := RX5) (T := TX5) (N := 5) 0 0 (fun _ h => List.mem_cons_of_mem _ (List.mem_append_right _ h)) (List.mem_of_getElem? (i := 3) rfl) rfl rfl (by decide) rfl rfl dX5_minutes_41 ?_
        refine g_iload_n 2 dX5_minutes_44 rfl rfl ?_
        refine g_bipush dX5_minutes_45 rfl ?_
        refine g_imul dX5_minutes_47 ?_
        refine g_iload_n 3 dX5_minutes_48 rfl rfl ?_
        refine g_iadd dX5_minutes_49 ?_
        refine g_iald 1 dX5_minutes_50 rfl (by decide) (by omega) (by omega) ?_
        refine g_iload_n 0 dX5_minutes_51 rfl rfl ?_
        refine g_iadd dX5_minutes_52 ?_
        exact g_iret hRet dX5_minutes_53 rfl ⟨(congrArg iI (by first | (exfalso; omega) | (unfold f_min; rw [Int.mul_comm 6 a]; first | (rw [if_pos (by omega)]; done) | (rw [if_neg (by omega)]; done)))), rfl⟩
      · refine g_aload_n 0 dX5_minutes_31 rfl rfl ?_
        refine g_get (C := RX5) (T := TX5) (N := 5) 0 4 (fun _ h => List.mem_cons_of_mem _ (List.mem_append_right _ h)) (List.mem_of_getElem? (i := 2) rfl) rfl rfl (by decide) rfl rfl dX5_minutes_32 ?_
        refine g_goto (tgt := 39) dX5_minutes_35 rfl ?_
        refine g_istore_n (lv1 := [(3, .int (iI cg)), (0, .ref a4), (1, .int (iI a)), (2, .int (iI b))]) dX5_minutes_39 rfl (by decide) rfl ?_
        refine g_aload_n 1 dX5_minutes_40 rfl rfl ?_
        refine g_get (C := RX5) (T := TX5) (N := 5) 0 0 (fun _ h => List.mem_cons_of_mem _ (List.mem_append_right _ h)) (List.mem_of_getElem? (i := 3) rfl) rfl rfl (by decide) rfl rfl dX5_minutes_41 ?_
        refine g_iload_n 2 dX5_minutes_44 rfl rfl ?_
        refine g_bipush dX5_minutes_45 rfl ?_
        refine g_imul dX5_minutes_47 ?_
        refine g_iload_n 3 dX5_minutes_48 rfl rfl ?_
        refine g_iadd dX5_minutes_49 ?_
        refine g_iald 1 dX5_minutes_50 rfl (by decide) (by omega) (by omega) ?_
        refine g_iload_n 0 dX5_minutes_51 rfl rfl ?_
        refine g_iadd dX5_minutes_52 ?_
        exact g_iret hRet dX5_minutes_53 rfl ⟨(congrArg iI (by first | (exfalso; omega) | (unfold f_min; rw [Int.mul_comm 6 a]; first | (rw [if_pos (by omega)]; done) | (rw [if_neg (by omega)]; done)))), rfl⟩
    · refine g_iconst dX5_minutes_14 ?_
      exact g_iret hRet dX5_minutes_15 rfl ⟨(congrArg iI (by first | (exfalso; omega) | (unfold f_min; rw [Int.mul_comm 6 a]; first | (rw [if_pos (by omega)]; done) | (rw [if_neg (by omega)]; done)))), rfl⟩
  · refine g_iconst dX5_minutes_14 ?_
    exact g_iret hRet dX5_minutes_15 rfl ⟨(congrArg iI (by first | (exfalso; omega) | (unfold f_min; rw [Int.mul_comm 6 a]; first | (rw [if_pos (by omega)]; done) | (rw [if_neg (by omega)]; done)))), rfl⟩

set_option maxHeartbeats 4000000 in
set_option maxRecDepth 100000 in
theorem c_X5_restOf (E : Ev) (a4 : Nat) (u1 : Nat) (u2 : Nat) (u3 : Nat) (wn : Int) (cg : Int) (rs : Int → Int) (g : Int) (k : Int) (hg : 0 ≤ g ∧ g ≤ 63) (hk : 0 ≤ k ∧ k ≤ 5) : MI yX5_restOf wsX5_restOf ({ frames := 1, cells := 0, slots := 0, locals := 22 } : Room) E [] 0 0 [.ref a4, .int (iI g), .int (iI k)] [(a4, oo 5 [.ref u1, .ref u2, .ref u3, .int (iI wn), .int (iI cg)]), (u3, aI E 384 rs)] (fun r u => r = iI (rs (g * 6 + k)) ∧ u = [(a4, oo 5 [.ref u1, .ref u2, .ref u3, .int (iI wn), .int (iI cg)]), (u3, aI E 384 rs)]) := by
  refine MI.of (cc := cX5_restOf) (maxL := 3) (own := RX5) (by decide) rfl rfl rfl (Nat.le_of_ble_eq_true rfl) [(0, .ref a4), (1, .int (iI g)), (2, .int (iI k))] rfl ?_
  intro X hin2 hRet
  refine g_iload_n 1 dX5_restOf_0 rfl rfl ?_
  refine g_iconst dX5_restOf_1 ?_
  refine g_bipush dX5_restOf_2 rfl ?_
  refine g_callN_i (n := 3) (As := [.int (iI g), .int (iI 0), .int (iI 63)]) (wr := [(a4, oo 5 [.ref u1, .ref u2, .ref u3, .int (iI wn), .int (iI cg)]), (u3, aI E 384 rs)]) [] (c_X6_within E g 0 63 (by omega) (by omega) (by omega)) [] [0, 1] gX5_restOf_X6_within_n55 (fun _ h => h.2.2.2.2.2.2.2.2.2.2.1) (List.mem_of_getElem? (i := 3) rfl) (List.mem_of_getElem? (i := 2) rfl) rfl (by decide +kernel) ⟨by decide, by decide⟩ rfl rfl rfl rfl rfl (by decide) rfl (by decide) (by decide) (fun _ h => absurd h List.not_mem_nil) dX5_restOf_4 rfl (Nat.le_of_ble_eq_true rfl) ⟨by decide, by decide⟩ (fun r u p_1 => ?_)
  obtain ⟨rfl, rfl⟩ := p_1
  refine g_perm (ws1 := [(a4, oo 5 [.ref u1, .ref u2, .ref u3, .int (iI wn), .int (iI cg)]), (u3, aI E 384 rs)]) [0, 1] rfl (by decide) rfl ?_
  refine g_if_eq_b (tgt := 33) dX5_restOf_7 rfl (fun c_2 => ?_) (fun c_2 => ?_)
  · refine g_iload_n 2 dX5_restOf_10 rfl rfl ?_
    refine g_iconst dX5_restOf_11 ?_
    refine g_iconst dX5_restOf_12 ?_
    refine g_callN_i (n := 3) (As := [.int (iI k), .int (iI 0), .int (iI 5)]) (wr := [(a4, oo 5 [.ref u1, .ref u2, .ref u3, .int (iI wn), .int (iI cg)]), (u3, aI E 384 rs)]) [] (c_X6_within E k 0 5 (by omega) (by omega) (by omega)) [] [0, 1] gX5_restOf_X6_within_n55 (fun _ h => h.2.2.2.2.2.2.2.2.2.2.1) (List.mem_of_getElem? (i := 3) rfl) (List.mem_of_getElem? (i := 2) rfl) rfl (by decide +kernel) ⟨by decide, by decide⟩ rfl rfl rfl rfl rfl (by decide) rfl (by decide) (by decide) (fun _ h => absurd h List.not_mem_nil) dX5_restOf_13 rfl (Nat.le_of_ble_eq_true rfl) ⟨by decide, by decide⟩ (fun r u p_3 => ?_)
    obtain ⟨rfl, rfl⟩ := p_3
    refine g_perm (ws1 := [(a4, oo 5 [.ref u1, .ref u2, .ref u3, .int (iI wn), .int (iI cg)]), (u3, aI E 384 rs)]) [0, 1] rfl (by decide) rfl ?_
    refine g_if_eq_b (tgt := 33) dX5_restOf_16 rfl (fun c_4 => ?_) (fun c_4 => ?_)
    · refine g_aload_n 0 dX5_restOf_19 rfl rfl ?_
      refine g_get (C := RX5) (T := TX5) (N := 5) 0 2 (fun _ h => List.mem_cons_of_mem _ (List.mem_append_right _ h)) (List.mem_of_getElem? (i := 1) rfl) rfl rfl (by decide) rfl rfl dX5_restOf_20 ?_
      refine g_iload_n 1 dX5_restOf_23 rfl rfl ?_
      refine g_bipush dX5_restOf_24 rfl ?_
      refine g_imul dX5_restOf_26 ?_
      refine g_iload_n 2 dX5_restOf_27 rfl rfl ?_
      refine g_iadd dX5_restOf_28 ?_
      refine g_iald 1 dX5_restOf_29 rfl (by decide) (by omega) (by omega) ?_
      refine g_goto (tgt := 34) dX5_restOf_30 rfl ?_
      exact g_iret hRet dX5_restOf_34 rfl ⟨(congrArg iI (by first | (exfalso; omega) | rfl)), rfl⟩
    · refine g_iconst dX5_restOf_33 ?_
      exact g_iret hRet dX5_restOf_34 rfl ⟨(congrArg iI (by first | (exfalso; omega) | rfl)), rfl⟩
  · refine g_iconst dX5_restOf_33 ?_
    exact g_iret hRet dX5_restOf_34 rfl ⟨(congrArg iI (by first | (exfalso; omega) | rfl)), rfl⟩

set_option maxHeartbeats 4000000 in
set_option maxRecDepth 100000 in
theorem c_X5_minutesBy (E : Ev) (a4 : Nat) (u1 : Nat) (u2 : Nat) (u3 : Nat) (wn : Int) (cg : Int) (ch : Int → Int) (sn : Int → Int) (rs : Int → Int) (g : Int) (k : Int) (q : Int) (hg : 0 ≤ g ∧ g ≤ 63) (hk : 0 ≤ k ∧ k ≤ 5) (hq : 0 ≤ q ∧ q ≤ 5) (hsn : ∀ i, 0 ≤ sn i ∧ sn i ≤ 3) : MI yX5_minutesBy wsX5_minutesBy ({ frames := 2, cells := 0, slots := 0, locals := 44 } : Room) E [] 0 0 [.ref a4, .int (iI g), .int (iI k), .int (iI q)] [(a4, oo 5 [.ref u1, .ref u2, .ref u3, .int (iI wn), .int (iI cg)]), (u1, aI E 36 ch), (u2, aI E 6 sn), (u3, aI E 384 rs)] (fun r u => r = iI (vC ch sn cg rs g k q) ∧ u = [(a4, oo 5 [.ref u1, .ref u2, .ref u3, .int (iI wn), .int (iI cg)]), (u1, aI E 36 ch), (u2, aI E 6 sn), (u3, aI E 384 rs)]) := by
  refine MI.of (cc := cX5_minutesBy) (maxL := 4) (own := RX5) (by decide) rfl rfl rfl (Nat.le_of_ble_eq_true rfl) [(0, .ref a4), (1, .int (iI g)), (2, .int (iI k)), (3, .int (iI q))] rfl ?_
  intro X hin2 hRet
  refine g_aload_n 0 dX5_minutesBy_0 rfl rfl ?_
  refine g_iload_n 2 dX5_minutesBy_1 rfl rfl ?_
  refine g_iload_n 3 dX5_minutesBy_2 rfl rfl ?_
  refine g_callV_i (n := 2) (As := [.int (iI k), .int (iI q)]) (wr := [(u3, aI E 384 rs)]) (C := RX5) [] (c_X5_minutes E a4 u1 u2 u3 wn cg ch sn k q (by omega) (by omega) (by exact hsn)) [0, 1, 2] [3] 0 rfl rfl gX5_minutesBy_X5_minutes rfl ⟨rfl, by decide +kernel⟩ ⟨by decide, by decide⟩ rfl rfl rfl rfl rfl (by decide) rfl (by decide) (by decide) (fun _ h => absurd h List.not_mem_nil) dX5_minutesBy_3 rfl (Nat.le_of_ble_eq_true rfl) ⟨by decide, by decide⟩ (fun r u p_1 => ?_)
  obtain ⟨rfl, rfl⟩ := p_1
  refine g_perm (ws1 := [(a4, oo 5 [.ref u1, .ref u2, .ref u3, .int (iI wn), .int (iI cg)]), (u1, aI E 36 ch), (u2, aI E 6 sn), (u3, aI E 384 rs)]) [1, 2, 3, 0] rfl (by decide) rfl ?_
  refine g_aload_n 0 dX5_minutesBy_6 rfl rfl ?_
  refine g_iload_n 1 dX5_minutesBy_7 rfl rfl ?_
  refine g_iconst dX5_minutesBy_8 ?_
  refine g_iload_n 3 dX5_minutesBy_9 rfl rfl ?_
  refine g_ishl dX5_minutesBy_10 ?_
  refine g_ior dX5_minutesBy_11 ?_
  refine g_top (y := iI (ab g q)) (b32 hg hq).2.2.1 ?_
  refine g_iload_n 3 dX5_minutesBy_12 rfl rfl ?_
  refine g_callV_i (n := 2) (As := [.int (iI (ab g q)), .int (iI q)]) (wr := [(u1, aI E 36 ch), (u2, aI E 6 sn)]) (C := RX5) [.int (iI (f_min ch sn cg k q))] (c_X5_restOf E a4 u1 u2 u3 wn cg rs (ab g q) q (by exact (fin1 hg hq).2.2.2.1) (by omega)) [0, 3] [1, 2] 0 rfl rfl gX5_minutesBy_X5_restOf rfl ⟨rfl, by decide +kernel⟩ ⟨by decide, by decide⟩ rfl rfl rfl rfl rfl (by decide) rfl (by decide) (by decide) (fun _ h => absurd h List.not_mem_nil) dX5_minutesBy_13 rfl (Nat.le_of_ble_eq_true rfl) ⟨by decide, by decide⟩ (fun r u p_2 => ?_)
  obtain ⟨rfl, rfl⟩ := p_2
  refine g_perm (ws1 := [(a4, oo 5 [.ref u1, .ref u2, .ref u3, .int (iI wn), .int (iI cg)]), (u1, aI E 36 ch), (u2, aI E 6 sn), (u3, aI E 384 rs)]) [2, 0, 1, 3] rfl (by decide) rfl ?_
  refine g_iadd dX5_minutesBy_16 ?_
  exact g_iret hRet dX5_minutesBy_17 rfl ⟨(congrArg iI (by rfl)), rfl⟩

set_option maxHeartbeats 4000000 in
set_option maxRecDepth 100000 in
theorem c_X5_nextKind (E : Ev) (a4 : Nat) (u1 : Nat) (u2 : Nat) (u3 : Nat) (wn : Int) (cg : Int) (ch : Int → Int) (sn : Int → Int) (rs : Int → Int) (g : Int) (k : Int) (hwn : 0 ≤ wn ∧ wn ≤ 63) (hg : 0 ≤ g ∧ g ≤ 63) (hk : 0 ≤ k ∧ k ≤ 5) (hcg : 0 ≤ cg ∧ cg ≤ 500) (hch : ∀ i, 0 ≤ ch i ∧ ch i ≤ 500) (hsn : ∀ i, 0 ≤ sn i ∧ sn i ≤ 3) (hrs : rOk rs) : MI yX5_nextKind wsX5_nextKind ({ frames := 3, cells := 0, slots := 0, locals := 67 } : Room) E [] 0 0 [.ref a4, .int (iI g), .int (iI k)] [(a4, oo 5 [.ref u1, .ref u2, .ref u3, .int (iI wn), .int (iI cg)]), (u1, aI E 36 ch), (u2, aI E 6 sn), (u3, aI E 384 rs)] (fun r u => r = iI (nC ch sn cg rs wn g k) ∧ u = [(a4, oo 5 [.ref u1, .ref u2, .ref u3, .int (iI wn), .int (iI cg)]), (u1, aI E 36 ch), (u2, aI E 6 sn), (u3, aI E 384 rs)]) := by
  refine MI.of (cc := cX5_nextKind) (maxL := 5) (own := RX5) (by decide) rfl rfl rfl (Nat.le_of_ble_eq_true rfl) [(0, .ref a4), (1, .int (iI g)), (2, .int (iI k))] rfl ?_
  intro X hin2 hRet
  refine g_bipush dX5_nextKind_0 rfl ?_
  refine g_istore_n (lv1 := [(3, .int (iI (-4))), (0, .ref a4), (1, .int (iI g)), (2, .int (iI k))]) dX5_nextKind_2 rfl (by decide) rfl ?_
  refine g_iconst dX5_nextKind_3 ?_
  refine g_istore (lv1 := [(4, .int (iI 0)), (3, .int (iI (-4))), (0, .ref a4), (1, .int (iI g)), (2, .int (iI k))]) dX5_nextKind_4 (by decide) rfl ?_
  refine g_lv (lv1 := [(0, .ref a4), (1, .int (iI g)), (2, .int (iI k)), (3, .int (iI (-4))), (4, .int (iI 0))]) [2, 3, 4, 1, 0] rfl ?_
  have L6 : ∀ (nn : Nat) (b : Int) (i : Int) (hi : 0 ≤ i ∧ i ≤ 6) (hb : b = nk (bt (df wn g)) (vC ch sn cg rs g k) i) (hm : 6 - i < (nn : Int)), G X ({ frames := 3, cells := 0, slots := 0, locals := 67 } : Room) cX5_nextKind 5 RX5 wsX5_nextKind E [] 0 0 [(a4, oo 5 [.ref u1, .ref u2, .ref u3, .int (iI wn), .int (iI cg)]), (u1, aI E 36 ch), (u2, aI E 6 sn), (u3, aI E 384 rs)] [(0, .ref a4), (1, .int (iI g)), (2, .int (iI k)), (3, .int (iI b)), (4, .int (iI i))] 6 [] := by
    intro nn
    induction nn with
    | zero => intro b i hi hb hm; exfalso; omega
    | succ nn ih6 =>
      intro b i hi hb hm
      refine g_iload 4 dX5_nextKind_6 rfl ?_
      refine g_bipush dX5_nextKind_8 rfl ?_
      refine g_icmp_ge (tgt := 62) (by unfold R32; omega) (by unfold R32; omega) dX5_nextKind_10 rfl (fun c_1 => ?_) (fun c_1 => ?_)
      · refine g_iload_n 3 dX5_nextKind_62 rfl rfl ?_
        exact g_iret hRet dX5_nextKind_63 rfl ⟨(congrArg iI (by rw [hb, show i = 6 by omega]; rfl)), rfl⟩
      · refine g_aload_n 0 dX5_nextKind_13 rfl rfl ?_
        refine g_get (C := RX5) (T := TX5) (N := 5) 0 3 (fun _ h => List.mem_cons_of_mem _ (List.mem_append_right _ h)) (List.mem_of_getElem? (i := 1) rfl) rfl rfl (by decide) rfl rfl dX5_nextKind_14 ?_
        refine g_iload_n 1 dX5_nextKind_17 rfl rfl ?_
        refine g_iconst dX5_nextKind_18 ?_
        refine g_ixor dX5_nextKind_19 ?_
        refine g_iand dX5_nextKind_20 ?_
        refine g_top (y := iI (df wn g)) (fin2 hwn hg).2 ?_
        refine g_iload 4 dX5_nextKind_21 rfl ?_
        refine g_callS_i (n := 2) (As := [.int (iI (df wn g)), .int (iI i)]) (wr := [(a4, oo 5 [.ref u1, .ref u2, .ref u3, .int (iI wn), .int (iI cg)]), (u1, aI E 36 ch), (u2, aI E 6 sn), (u3, aI E 384 rs)]) [] (c_X5_isIn E (df wn g) i (by exact (fin2 hwn hg).1) (by omega)) [] [0, 1, 2, 3] gX5_nextKind_X5_isIn rfl ⟨rfl, by decide +kernel⟩ ⟨by decide, by decide⟩ rfl rfl rfl rfl rfl (by decide) rfl (by decide) (by decide) (fun _ h => absurd h List.not_mem_nil) dX5_nextKind_23 rfl (Nat.le_of_ble_eq_true rfl) ⟨by decide, by decide⟩ (fun r u p_2 => ?_)
        obtain ⟨rfl, rfl⟩ := p_2
        refine g_perm (ws1 := [(a4, oo 5 [.ref u1, .ref u2, .ref u3, .int (iI wn), .int (iI cg)]), (u1, aI E 36 ch), (u2, aI E 6 sn), (u3, aI E 384 rs)]) [0, 1, 2, 3] rfl (by decide) rfl ?_
        refine g_if_eq_b (tgt := 56) dX5_nextKind_26 rfl (fun hbit => ?_) (fun hbit => ?_)
        · have hsp := nk_sp (bt (df wn g)) (vC ch sn cg rs g k) hi.1
          rw [← hb] at hsp
          have hb5 : b = -4 ∨ (0 ≤ b ∧ b ≤ 5) := by rcases hsp with h | h <;> omega
          refine g_iload_n 3 dX5_nextKind_29 rfl rfl ?_
          refine g_bipush dX5_nextKind_30 rfl ?_
          refine g_icmp_eq (tgt := 53) (by unfold R32; omega) (by unfold R32; omega) dX5_nextKind_32 rfl (fun hb4 => ?_) (fun hb4 => ?_)
          · refine g_iload 4 dX5_nextKind_53 rfl ?_
            refine g_istore_n (lv1 := [(3, .int (iI i)), (0, .ref a4), (1, .int (iI g)), (2, .int (iI k)), (4, .int (iI i))]) dX5_nextKind_55 rfl (by decide) rfl ?_
            refine g_iinc (lv1 := [(4, .int (iI (i + 1))), (3, .int (iI i)), (0, .ref a4), (1, .int (iI g)), (2, .int (iI k))]) 4 dX5_nextKind_56 rfl (by decide) rfl ?_
            refine g_goto (tgt := 6) dX5_nextKind_59 rfl ?_
            refine g_lv (lv1 := [(0, .ref a4), (1, .int (iI g)), (2, .int (iI k)), (3, .int (iI i)), (4, .int (iI (i + 1)))]) [2, 3, 4, 1, 0] rfl ?_
            exact ih6 i (i + 1) (by omega) (by rw [nk_s _ _ hi.1, ← hb]; first | (rw [if_pos ⟨hbit, by first | (exact Or.inl hb4) | (exact Or.inr (by omega))⟩]; done) | (rw [if_neg (fun z => by rcases z.2 with z2 | z2 <;> omega)]; done) | (rw [if_neg (fun z => hbit z.1)]; done)) (by omega)
          · refine g_aload_n 0 dX5_nextKind_35 rfl rfl ?_
            refine g_iload_n 1 dX5_nextKind_36 rfl rfl ?_
            refine g_iload_n 2 dX5_nextKind_37 rfl rfl ?_
            refine g_iload 4 dX5_nextKind_38 rfl ?_
            refine g_callV_i (n := 3) (As := [.int (iI g), .int (iI k), .int (iI i)]) (wr := []) (C := RX5) [] (c_X5_minutesBy E a4 u1 u2 u3 wn cg ch sn rs g k i (by omega) (by omega) (by omega) (by exact hsn)) [0, 1, 2, 3] [] 0 rfl rfl gX5_nextKind_X5_minutesBy rfl ⟨rfl, by decide +kernel⟩ ⟨by decide, by decide⟩ rfl rfl rfl rfl rfl (by decide) rfl (by decide) (by decide) (fun _ h => absurd h List.not_mem_nil) dX5_nextKind_40 rfl (Nat.le_of_ble_eq_true rfl) ⟨by decide, by decide⟩ (fun r u p_3 => ?_)
            obtain ⟨rfl, rfl⟩ := p_3
            refine g_aload_n 0 dX5_nextKind_43 rfl rfl ?_
            refine g_iload_n 1 dX5_nextKind_44 rfl rfl ?_
            refine g_iload_n 2 dX5_nextKind_45 rfl rfl ?_
            refine g_iload_n 3 dX5_nextKind_46 rfl rfl ?_
            refine g_callV_i (n := 3) (As := [.int (iI g), .int (iI k), .int (iI b)]) (wr := []) (C := RX5) [.int (iI (vC ch sn cg rs g k i))] (c_X5_minutesBy E a4 u1 u2 u3 wn cg ch sn rs g k b (by omega) (by omega) (by omega) (by exact hsn)) [0, 1, 2, 3] [] 0 rfl rfl gX5_nextKind_X5_minutesBy rfl ⟨rfl, by decide +kernel⟩ ⟨by decide, by decide⟩ rfl rfl rfl rfl rfl (by decide) rfl (by decide) (by decide) (fun _ h => absurd h List.not_mem_nil) dX5_nextKind_47 rfl (Nat.le_of_ble_eq_true rfl) ⟨by decide, by decide⟩ (fun r u p_4 => ?_)
            obtain ⟨rfl, rfl⟩ := p_4
            refine g_icmp_ge (tgt := 56) (by have q9 := vC_b (sn := sn) (k := k) (q := i) hch hcg hrs hg (by omega); unfold R32; omega) (by have q9 := vC_b (sn := sn) (k := k) (q := b) hch hcg hrs hg (by omega); unfold R32; omega) dX5_nextKind_50 rfl (fun c_5 => ?_) (fun c_5 => ?_)
            · refine g_iinc (lv1 := [(4, .int (iI (i + 1))), (0, .ref a4), (1, .int (iI g)), (2, .int (iI k)), (3, .int (iI b))]) 4 dX5_nextKind_56 rfl (by decide) rfl ?_
              refine g_goto (tgt := 6) dX5_nextKind_59 rfl ?_
              refine g_lv (lv1 := [(0, .ref a4), (1, .int (iI g)), (2, .int (iI k)), (3, .int (iI b)), (4, .int (iI (i + 1)))]) [1, 2, 3, 4, 0] rfl ?_
              exact ih6 b (i + 1) (by omega) (by rw [nk_s _ _ hi.1, ← hb]; first | (rw [if_pos ⟨hbit, by first | (exact Or.inl hb4) | (exact Or.inr (by omega))⟩]; done) | (rw [if_neg (fun z => by rcases z.2 with z2 | z2 <;> omega)]; done) | (rw [if_neg (fun z => hbit z.1)]; done)) (by omega)
            · refine g_iload 4 dX5_nextKind_53 rfl ?_
              refine g_istore_n (lv1 := [(3, .int (iI i)), (0, .ref a4), (1, .int (iI g)), (2, .int (iI k)), (4, .int (iI i))]) dX5_nextKind_55 rfl (by decide) rfl ?_
              refine g_iinc (lv1 := [(4, .int (iI (i + 1))), (3, .int (iI i)), (0, .ref a4), (1, .int (iI g)), (2, .int (iI k))]) 4 dX5_nextKind_56 rfl (by decide) rfl ?_
              refine g_goto (tgt := 6) dX5_nextKind_59 rfl ?_
              refine g_lv (lv1 := [(0, .ref a4), (1, .int (iI g)), (2, .int (iI k)), (3, .int (iI i)), (4, .int (iI (i + 1)))]) [2, 3, 4, 1, 0] rfl ?_
              exact ih6 i (i + 1) (by omega) (by rw [nk_s _ _ hi.1, ← hb]; first | (rw [if_pos ⟨hbit, by first | (exact Or.inl hb4) | (exact Or.inr (by omega))⟩]; done) | (rw [if_neg (fun z => by rcases z.2 with z2 | z2 <;> omega)]; done) | (rw [if_neg (fun z => hbit z.1)]; done)) (by omega)
        · refine g_iinc (lv1 := [(4, .int (iI (i + 1))), (0, .ref a4), (1, .int (iI g)), (2, .int (iI k)), (3, .int (iI b))]) 4 dX5_nextKind_56 rfl (by decide) rfl ?_
          refine g_goto (tgt := 6) dX5_nextKind_59 rfl ?_
          refine g_lv (lv1 := [(0, .ref a4), (1, .int (iI g)), (2, .int (iI k)), (3, .int (iI b)), (4, .int (iI (i + 1)))]) [1, 2, 3, 4, 0] rfl ?_
          exact ih6 b (i + 1) (by omega) (by rw [nk_s _ _ hi.1, ← hb]; first | (rw [if_pos ⟨hbit, by first | (exact Or.inl hb4) | (exact Or.inr (by omega))⟩]; done) | (rw [if_neg (fun z => by rcases z.2 with z2 | z2 <;> omega)]; done) | (rw [if_neg (fun z => hbit z.1)]; done)) (by omega)
  exact L6 _ (-4) 0 (by omega) (by rfl) (lt_nn _)

set_option maxHeartbeats 4000000 in
set_option maxRecDepth 100000 in
theorem c_X5_leastRest (E : Ev) (a4 : Nat) (u1 : Nat) (u2 : Nat) (u3 : Nat) (wn : Int) (cg : Int) (ch : Int → Int) (sn : Int → Int) (rs : Int → Int) (g : Int) (k : Int) (hwn : 0 ≤ wn ∧ wn ≤ 63) (hg : 0 ≤ g ∧ g ≤ 63) (hk : 0 ≤ k ∧ k ≤ 5) (hcg : 0 ≤ cg ∧ cg ≤ 500) (hch : ∀ i, 0 ≤ ch i ∧ ch i ≤ 500) (hsn : ∀ i, 0 ≤ sn i ∧ sn i ≤ 3) (hrs : rOk rs) : MI yX5_leastRest wsX5_leastRest ({ frames := 4, cells := 0, slots := 0, locals := 91 } : Room) E [] 0 0 [.ref a4, .int (iI g), .int (iI k)] [(a4, oo 5 [.ref u1, .ref u2, .ref u3, .int (iI wn), .int (iI cg)]), (u1, aI E 36 ch), (u2, aI E 6 sn), (u3, aI E 384 rs)] (fun r u => r = iI (lC ch sn cg rs wn g k) ∧ u = [(a4, oo 5 [.ref u1, .ref u2, .ref u3, .int (iI wn), .int (iI cg)]), (u1, aI E 36 ch), (u2, aI E 6 sn), (u3, aI E 384 rs)]) := by
  refine MI.of (cc := cX5_leastRest) (maxL := 4) (own := RX5) (by decide) rfl rfl rfl (Nat.le_of_ble_eq_true rfl) [(0, .ref a4), (1, .int (iI g)), (2, .int (iI k))] rfl ?_
  intro X hin2 hRet
  refine g_aload_n 0 dX5_leastRest_0 rfl rfl ?_
  refine g_iload_n 1 dX5_leastRest_1 rfl rfl ?_
  refine g_iload_n 2 dX5_leastRest_2 rfl rfl ?_
  refine g_callV_i (n := 2) (As := [.int (iI g), .int (iI k)]) (wr := []) (C := RX5) [] (c_X5_nextKind E a4 u1 u2 u3 wn cg ch sn rs g k (by omega) (by omega) (by omega) (by omega) (by exact hch) (by exact hsn) (by exact hrs)) [0, 1, 2, 3] [] 0 rfl rfl gX5_leastRest_X5_nextKind rfl ⟨rfl, by decide +kernel⟩ ⟨by decide, by decide⟩ rfl rfl rfl rfl rfl (by decide) rfl (by decide) (by decide) (fun _ h => absurd h List.not_mem_nil) dX5_leastRest_3 rfl (Nat.le_of_ble_eq_true rfl) ⟨by decide, by decide⟩ (fun r u p_1 => ?_)
  obtain ⟨rfl, rfl⟩ := p_1
  have hnb := nC_b (ch := ch) (sn := sn) (cg := cg) (wn := wn) (g := g) (k := k) (rs := rs)
  refine g_istore_n (lv1 := [(3, .int (iI (nC ch sn cg rs wn g k))), (0, .ref a4), (1, .int (iI g)), (2, .int (iI k))]) dX5_leastRest_6 rfl (by decide) rfl ?_
  refine g_iload_n 0 dX5_leastRest_7 rfl rfl ?_
  refine g_bipush dX5_leastRest_8 rfl ?_
  refine g_icmp_ne (tgt := 17) (by unfold R32; omega) (by unfold R32; omega) dX5_leastRest_10 rfl (fun c_2 => ?_) (fun c_2 => ?_)
  · refine g_iconst dX5_leastRest_13 ?_
    refine g_goto (tgt := 24) dX5_leastRest_14 rfl ?_
    exact g_iret hRet dX5_leastRest_24 rfl ⟨(congrArg iI (by unfold lC; first | (rw [if_pos (by assumption)]; done) | (rw [if_neg (by assumption)]; done))), rfl⟩
  · refine g_aload_n 1 dX5_leastRest_17 rfl rfl ?_
    refine g_iload_n 2 dX5_leastRest_18 rfl rfl ?_
    refine g_iload_n 3 dX5_leastRest_19 rfl rfl ?_
    refine g_iload_n 0 dX5_leastRest_20 rfl rfl ?_
    refine g_callV_i (n := 3) (As := [.int (iI g), .int (iI k), .int (iI (nC ch sn cg rs wn g k))]) (wr := []) (C := RX5) [] (c_X5_minutesBy E a4 u1 u2 u3 wn cg ch sn rs g k (nC ch sn cg rs wn g k) (by omega) (by omega) (by omega) (by exact hsn)) [0, 1, 2, 3] [] 0 rfl rfl gX5_leastRest_X5_minutesBy rfl ⟨rfl, by decide +kernel⟩ ⟨by decide, by decide⟩ rfl rfl rfl rfl rfl (by decide) rfl (by decide) (by decide) (fun _ h => absurd h List.not_mem_nil) dX5_leastRest_21 rfl (Nat.le_of_ble_eq_true rfl) ⟨by decide, by decide⟩ (fun r u p_3 => ?_)
    obtain ⟨rfl, rfl⟩ := p_3
    exact g_iret hRet dX5_leastRest_24 rfl ⟨(congrArg iI (by unfold lC; first | (rw [if_pos (by assumption)]; done) | (rw [if_neg (by assumption)]; done))), rfl⟩

set_option maxHeartbeats 4000000 in
set_option maxRecDepth 100000 in
theorem c_X5_find (E : Ev) (a4 : Nat) (u1 : Nat) (u2 : Nat) (u3 : Nat) (wn : Int) (cg : Int) (ch : Int → Int) (sn : Int → Int) (rs : Int → Int) (s : Int) (cl : Int) (hs : 0 ≤ s ∧ s ≤ 63) (hcl : 0 ≤ cl ∧ cl ≤ 500) (hch : ∀ i, 0 ≤ ch i ∧ ch i ≤ 500) (hsn : ∀ i, 0 ≤ sn i ∧ sn i ≤ 3) (hrs : rOk rs) : MV yX5_find wsX5_find ({ frames := 5, cells := 0, slots := 0, locals := 114 } : Room) E [] 0 0 [.ref a4, .int (iI s), .int (iI cl)] [(a4, oo 5 [.ref u1, .ref u2, .ref u3, .int (iI wn), .int (iI cg)]), (u1, aI E 36 ch), (u2, aI E 6 sn), (u3, aI E 384 rs)] (fun u => ∃ (rs' : Int → Int), (rOk rs' ∧ fT ch sn cl rs' s 0 0) ∧ u = [(a4, oo 5 [.ref u1, .ref u2, .ref u3, .int (iI s), .int (iI cl)]), (u1, aI E 36 ch), (u2, aI E 6 sn), (u3, aI E 384 rs')]) := by
  refine MV.of (cc := cX5_find) (maxL := 5) (own := RX5) (by decide) rfl rfl rfl (Nat.le_of_ble_eq_true rfl) [(0, .ref a4), (1, .int (iI s)), (2, .int (iI cl))] rfl ?_
  intro X hin2 hRet
  refine g_aload_n 0 dX5_find_0 rfl rfl ?_
  refine g_iload_n 1 dX5_find_1 rfl rfl ?_
  refine g_put (C := RX5) (T := TX5) (N := 5) (ws1 := [(a4, oo 5 [.ref u1, .ref u2, .ref u3, .int (iI s), .int (iI cg)]), (u1, aI E 36 ch), (u2, aI E 6 sn), (u3, aI E 384 rs)]) 0 3 (fun _ h => List.mem_cons_of_mem _ (List.mem_append_right _ h)) tyX5 tyX5_ok nmX5 (List.mem_of_getElem? (i := 1) rfl) rfl rfl (by decide) rfl (tyX5_ok 3 (by decide)) rfl rfl (by first | decide | exact Nat.le_of_ble_eq_true rfl) dX5_find_2 rfl rfl ?_
  refine g_aload_n 0 dX5_find_5 rfl rfl ?_
  refine g_iload_n 2 dX5_find_6 rfl rfl ?_
  refine g_put (C := RX5) (T := TX5) (N := 5) (ws1 := [(a4, oo 5 [.ref u1, .ref u2, .ref u3, .int (iI s), .int (iI cl)]), (u1, aI E 36 ch), (u2, aI E 6 sn), (u3, aI E 384 rs)]) 0 4 (fun _ h => List.mem_cons_of_mem _ (List.mem_append_right _ h)) tyX5 tyX5_ok nmX5 (List.mem_of_getElem? (i := 2) rfl) rfl rfl (by decide) rfl (tyX5_ok 4 (by decide)) rfl rfl (by first | decide | exact Nat.le_of_ble_eq_true rfl) dX5_find_7 rfl rfl ?_
  refine g_bipush dX5_find_10 rfl ?_
  refine g_istore_n (lv1 := [(3, .int (iI 63)), (0, .ref a4), (1, .int (iI s)), (2, .int (iI cl))]) dX5_find_12 rfl (by decide) rfl ?_
  refine g_lv (lv1 := [(0, .ref a4), (1, .int (iI s)), (2, .int (iI cl)), (3, .int (iI 63))]) [1, 2, 3, 0] rfl ?_
  have L13 : ∀ (nn : Nat) (g : Int) (r : Int → Int) (hg : 0 ≤ g ∧ g ≤ 63) (hR : rOk r) (hT : fT ch sn cl r s g 0) (hm : g < (nn : Int)), G X ({ frames := 5, cells := 0, slots := 0, locals := 114 } : Room) cX5_find 5 RX5 wsX5_find E [] 0 0 [(a4, oo 5 [.ref u1, .ref u2, .ref u3, .int (iI s), .int (iI cl)]), (u1, aI E 36 ch), (u2, aI E 6 sn), (u3, aI E 384 r)] [(0, .ref a4), (1, .int (iI s)), (2, .int (iI cl)), (3, .int (iI g))] 13 [] := by
    intro nn
    induction nn with
    | zero => intro g r hg hR hT hm; exfalso; omega
    | succ nn ih13 =>
      intro g r hg hR hT hm
      refine g_iload_n 3 dX5_find_13 rfl rfl ?_
      refine g_if_le (tgt := 75) (by unfold R32; omega) dX5_find_14 rfl (fun c_1 => ?_) (fun c_1 => ?_)
      · exact g_vret hRet dX5_find_75 ⟨r, (by exact ⟨hR, by have e := hT; rw [show g = 0 by omega] at e; exact e⟩), rfl⟩
      · refine g_iconst dX5_find_17 ?_
        refine g_istore (lv1 := [(4, .int (iI 0)), (0, .ref a4), (1, .int (iI s)), (2, .int (iI cl)), (3, .int (iI g))]) dX5_find_18 (by decide) rfl ?_
        refine g_lv (lv1 := [(0, .ref a4), (1, .int (iI s)), (2, .int (iI cl)), (3, .int (iI g)), (4, .int (iI 0))]) [1, 2, 3, 4, 0] rfl ?_
        have L20 : ∀ (nn : Nat) (k : Int) (r2 : Int → Int) (hk2 : 0 ≤ k ∧ k ≤ 6) (hR2 : rOk r2) (hT2 : fT ch sn cl r2 s g k) (hm : 6 - k < (nn : Int)), G X ({ frames := 5, cells := 0, slots := 0, locals := 114 } : Room) cX5_find 5 RX5 wsX5_find E [] 0 0 [(a4, oo 5 [.ref u1, .ref u2, .ref u3, .int (iI s), .int (iI cl)]), (u1, aI E 36 ch), (u2, aI E 6 sn), (u3, aI E 384 r2)] [(0, .ref a4), (1, .int (iI s)), (2, .int (iI cl)), (3, .int (iI g)), (4, .int (iI k))] 20 [] := by
          intro nn
          induction nn with
          | zero => intro k r2 hk2 hR2 hT2 hm; exfalso; omega
          | succ nn ih20 =>
            intro k r2 hk2 hR2 hT2 hm
            refine g_iload 4 dX5_find_20 rfl ?_
            refine g_bipush dX5_find_22 rfl ?_
            refine g_icmp_ge (tgt := 69) (by unfold R32; omega) (by unfold R32; omega) dX5_find_24 rfl (fun c_2 => ?_) (fun c_2 => ?_)
            · refine g_iinc (lv1 := [(3, .int (iI (g + (-1)))), (0, .ref a4), (1, .int (iI s)), (2, .int (iI cl)), (4, .int (iI k))]) 3 dX5_find_69 rfl (by decide) rfl ?_
              refine g_goto (tgt := 13) dX5_find_72 rfl ?_
              refine g_lv (lv1 := [(0, .ref a4), (1, .int (iI s)), (2, .int (iI cl)), (3, .int (iI (g + (-1))))]) [1, 2, 3, 0] rfl ?_
              exact ih13 (g + (-1)) r2 (by omega) (by exact hR2) (by exact fT_o (by have e := hT2; rw [show k = 6 by omega] at e; exact e)) (by omega)
            · refine g_iload_n 3 dX5_find_27 rfl rfl ?_
              refine g_iload_n 1 dX5_find_28 rfl rfl ?_
              refine g_iconst dX5_find_29 ?_
              refine g_ixor dX5_find_30 ?_
              refine g_iand dX5_find_31 ?_
              refine g_top (y := iI (df g s)) (fin2 hg hs).2 ?_
              refine g_if_ne (tgt := 63) (by have q9 := (fin2 hg hs).1; unfold R32; omega) dX5_find_32 rfl (fun c_3 => ?_) (fun c_3 => ?_)
              · refine g_iload_n 3 dX5_find_35 rfl rfl ?_
                refine g_iload 4 dX5_find_36 rfl ?_
                refine g_callS_i (n := 2) (As := [.int (iI g), .int (iI k)]) (wr := [(a4, oo 5 [.ref u1, .ref u2, .ref u3, .int (iI s), .int (iI cl)]), (u1, aI E 36 ch), (u2, aI E 6 sn), (u3, aI E 384 r2)]) [] (c_X5_isIn E g k (by omega) (by omega)) [] [0, 1, 2, 3] gX5_find_X5_isIn rfl ⟨rfl, by decide +kernel⟩ ⟨by decide, by decide⟩ rfl rfl rfl rfl rfl (by decide) rfl (by decide) (by decide) (fun _ h => absurd h List.not_mem_nil) dX5_find_38 rfl (Nat.le_of_ble_eq_true rfl) ⟨by decide, by decide⟩ (fun r u p_4 => ?_)
                obtain ⟨rfl, rfl⟩ := p_4
                refine g_perm (ws1 := [(a4, oo 5 [.ref u1, .ref u2, .ref u3, .int (iI s), .int (iI cl)]), (u1, aI E 36 ch), (u2, aI E 6 sn), (u3, aI E 384 r2)]) [0, 1, 2, 3] rfl (by decide) rfl ?_
                refine g_if_eq_b (tgt := 63) dX5_find_41 rfl (fun c_5 => ?_) (fun c_5 => ?_)
                · refine g_aload_n 0 dX5_find_44 rfl rfl ?_
                  refine g_get (C := RX5) (T := TX5) (N := 5) 0 2 (fun _ h => List.mem_cons_of_mem _ (List.mem_append_right _ h)) (List.mem_of_getElem? (i := 3) rfl) rfl rfl (by decide) rfl rfl dX5_find_45 ?_
                  refine g_iload_n 3 dX5_find_48 rfl rfl ?_
                  refine g_bipush dX5_find_49 rfl ?_
                  refine g_imul dX5_find_51 ?_
                  refine g_iload 4 dX5_find_52 rfl ?_
                  refine g_iadd dX5_find_54 ?_
                  refine g_aload_n 0 dX5_find_55 rfl rfl ?_
                  refine g_iload_n 3 dX5_find_56 rfl rfl ?_
                  refine g_iload 4 dX5_find_57 rfl ?_
                  refine g_callV_i (n := 2) (As := [.int (iI g), .int (iI k)]) (wr := []) (C := RX5) [.int (iI ((g * 6) + k)), .ref u3] (c_X5_leastRest E a4 u1 u2 u3 s cl ch sn r2 g k (by omega) (by omega) (by omega) (by omega) (by exact hch) (by exact hsn) (by exact hR2)) [0, 1, 2, 3] [] 0 rfl rfl gX5_find_X5_leastRest rfl ⟨rfl, by decide +kernel⟩ ⟨by decide, by decide⟩ rfl rfl rfl rfl rfl (by decide) rfl (by decide) (by decide) (fun _ h => absurd h List.not_mem_nil) dX5_find_59 rfl (Nat.le_of_ble_eq_true rfl) ⟨by decide, by decide⟩ (fun r u p_6 => ?_)
                  obtain ⟨rfl, rfl⟩ := p_6
                  refine g_iast (ws1 := [(a4, oo 5 [.ref u1, .ref u2, .ref u3, .int (iI s), .int (iI cl)]), (u1, aI E 36 ch), (u2, aI E 6 sn), (u3, aI E 384 (up r2 ((g * 6) + k) (lC ch sn cl r2 s g k)))]) 3 dX5_find_62 rfl rfl (by decide) (by omega) (by omega) ?_
                  refine g_iinc (lv1 := [(4, .int (iI (k + 1))), (0, .ref a4), (1, .int (iI s)), (2, .int (iI cl)), (3, .int (iI g))]) 4 dX5_find_63 rfl (by decide) rfl ?_
                  refine g_goto (tgt := 20) dX5_find_66 rfl ?_
                  refine g_lv (lv1 := [(0, .ref a4), (1, .int (iI s)), (2, .int (iI cl)), (3, .int (iI g)), (4, .int (iI (k + 1)))]) [1, 2, 3, 4, 0] rfl ?_
                  exact ih20 (k + 1) (up r2 ((g * 6) + k) (lC ch sn cl r2 s g k)) (by omega) (by first | exact hR2 | exact rOk_up hR2 (by omega) (lC_b hch hcl hR2 hs hg)) (by first | exact fT_s hT2 hs hg (by omega) | exact fT_n hT2 (Or.inl (by assumption)) | exact fT_n hT2 (Or.inr (by omega))) (by omega)
                · refine g_iinc (lv1 := [(4, .int (iI (k + 1))), (0, .ref a4), (1, .int (iI s)), (2, .int (iI cl)), (3, .int (iI g))]) 4 dX5_find_63 rfl (by decide) rfl ?_
                  refine g_goto (tgt := 20) dX5_find_66 rfl ?_
                  refine g_lv (lv1 := [(0, .ref a4), (1, .int (iI s)), (2, .int (iI cl)), (3, .int (iI g)), (4, .int (iI (k + 1)))]) [1, 2, 3, 4, 0] rfl ?_
                  exact ih20 (k + 1) r2 (by omega) (by first | exact hR2 | exact rOk_up hR2 (by omega) (lC_b hch hcl hR2 hs hg)) (by first | exact fT_s hT2 hs hg (by omega) | exact fT_n hT2 (Or.inl (by assumption)) | exact fT_n hT2 (Or.inr (by omega))) (by omega)
              · refine g_iinc (lv1 := [(4, .int (iI (k + 1))), (0, .ref a4), (1, .int (iI s)), (2, .int (iI cl)), (3, .int (iI g))]) 4 dX5_find_63 rfl (by decide) rfl ?_
                refine g_goto (tgt := 20) dX5_find_66 rfl ?_
                refine g_lv (lv1 := [(0, .ref a4), (1, .int (iI s)), (2, .int (iI cl)), (3, .int (iI g)), (4, .int (iI (k + 1)))]) [1, 2, 3, 4, 0] rfl ?_
                exact ih20 (k + 1) r2 (by omega) (by first | exact hR2 | exact rOk_up hR2 (by omega) (lC_b hch hcl hR2 hs hg)) (by first | exact fT_s hT2 hs hg (by omega) | exact fT_n hT2 (Or.inl (by assumption)) | exact fT_n hT2 (Or.inr (by omega))) (by omega)
        exact L20 _ 0 r (by omega) (by exact hR) (by exact hT) (lt_nn _)
  exact L13 _ 63 rs (by omega) (by exact hrs) (by intro g' k' a b; exfalso; omega) (lt_nn _)

set_option maxHeartbeats 4000000 in
set_option maxRecDepth 100000 in
theorem c_X5_least (E : Ev) (a4 : Nat) (u1 : Nat) (u2 : Nat) (u3 : Nat) (wn : Int) (cg : Int) (rs : Int → Int) (k : Int) (hk : 0 ≤ k ∧ k ≤ 5) : MI yX5_least wsX5_least ({ frames := 2, cells := 0, slots := 0, locals := 44 } : Room) E [] 0 0 [.ref a4, .int (iI k)] [(a4, oo 5 [.ref u1, .ref u2, .ref u3, .int (iI wn), .int (iI cg)]), (u3, aI E 384 rs)] (fun r u => r = iI (rs (ab 0 k * 6 + k)) ∧ u = [(a4, oo 5 [.ref u1, .ref u2, .ref u3, .int (iI wn), .int (iI cg)]), (u3, aI E 384 rs)]) := by
  refine MI.of (cc := cX5_least) (maxL := 2) (own := RX5) (by decide) rfl rfl rfl (Nat.le_of_ble_eq_true rfl) [(0, .ref a4), (1, .int (iI k))] rfl ?_
  intro X hin2 hRet
  refine g_aload_n 0 dX5_least_0 rfl rfl ?_
  refine g_iconst dX5_least_1 ?_
  refine g_iload_n 1 dX5_least_2 rfl rfl ?_
  refine g_ishl dX5_least_3 ?_
  refine g_top (y := iI (ab 0 k)) (b32 (s := 0) (by omega) hk).2.2.2 ?_
  refine g_iload_n 1 dX5_least_4 rfl rfl ?_
  refine g_callV_i (n := 2) (As := [.int (iI (ab 0 k)), .int (iI k)]) (wr := []) (C := RX5) [] (c_X5_restOf E a4 u1 u2 u3 wn cg rs (ab 0 k) k (by exact (fin1 (s := 0) (by omega) hk).2.2.2.1) (by omega)) [0, 1] [] 0 rfl rfl gX5_least_X5_restOf rfl ⟨rfl, by decide +kernel⟩ ⟨by decide, by decide⟩ rfl rfl rfl rfl rfl (by decide) rfl (by decide) (by decide) (fun _ h => absurd h List.not_mem_nil) dX5_least_5 rfl (Nat.le_of_ble_eq_true rfl) ⟨by decide, by decide⟩ (fun r u p_1 => ?_)
  obtain ⟨rfl, rfl⟩ := p_1
  exact g_iret hRet dX5_least_8 rfl ⟨(congrArg iI (by omega)), rfl⟩

set_option maxHeartbeats 4000000 in
set_option maxRecDepth 100000 in
theorem c_X5_kindAt (E : Ev) (a4 : Nat) (u1 : Nat) (u2 : Nat) (u3 : Nat) (wn : Int) (cg : Int) (ch : Int → Int) (sn : Int → Int) (rs : Int → Int) (fr : Int) (i : Int) (hwn : 0 ≤ wn ∧ wn ≤ 63) (hfr : 0 ≤ fr ∧ fr ≤ 5) (hi : 0 ≤ i ∧ i ≤ 2147483647) (hcg : 0 ≤ cg ∧ cg ≤ 500) (hch : ∀ i, 0 ≤ ch i ∧ ch i ≤ 500) (hsn : ∀ i, 0 ≤ sn i ∧ sn i ≤ 3) (hrs : rOk rs) : MI yX5_kindAt wsX5_kindAt ({ frames := 4, cells := 0, slots := 0, locals := 91 } : Room) E [] 0 0 [.ref a4, .int (iI fr), .int (iI i)] [(a4, oo 5 [.ref u1, .ref u2, .ref u3, .int (iI wn), .int (iI cg)]), (u1, aI E 36 ch), (u2, aI E 6 sn), (u3, aI E 384 rs)] (fun r u => r = iI (if 6 ≤ i then -4 else cW ch sn cg rs wn i.toNat (ab 0 fr) fr) ∧ u = [(a4, oo 5 [.ref u1, .ref u2, .ref u3, .int (iI wn), .int (iI cg)]), (u1, aI E 36 ch), (u2, aI E 6 sn), (u3, aI E 384 rs)]) := by
  refine MI.of (cc := cX5_kindAt) (maxL := 6) (own := RX5) (by decide) rfl rfl rfl (Nat.le_of_ble_eq_true rfl) [(0, .ref a4), (1, .int (iI fr)), (2, .int (iI i))] rfl ?_
  intro X hin2 hRet
  refine g_iload_n 2 dX5_kindAt_0 rfl rfl ?_
  refine g_bipush dX5_kindAt_1 rfl ?_
  refine g_icmp_lt (tgt := 9) (by unfold R32; omega) (by unfold R32; omega) dX5_kindAt_3 rfl (fun c_1 => ?_) (fun c_1 => ?_)
  · refine g_iload_n 1 dX5_kindAt_9 rfl rfl ?_
    refine g_istore_n (lv1 := [(3, .int (iI fr)), (0, .ref a4), (1, .int (iI fr)), (2, .int (iI i))]) dX5_kindAt_10 rfl (by decide) rfl ?_
    refine g_iconst dX5_kindAt_11 ?_
    refine g_iload_n 2 dX5_kindAt_12 rfl rfl ?_
    refine g_ishl dX5_kindAt_13 ?_
    refine g_top (y := iI (ab 0 fr)) (b32 (s := 0) (by omega) hfr).2.2.2 ?_
    refine g_istore (lv1 := [(4, .int (iI (ab 0 fr))), (3, .int (iI fr)), (0, .ref a4), (1, .int (iI fr)), (2, .int (iI i))]) dX5_kindAt_14 (by decide) rfl ?_
    refine g_iconst dX5_kindAt_16 ?_
    refine g_istore (lv1 := [(5, .int (iI 0)), (4, .int (iI (ab 0 fr))), (3, .int (iI fr)), (0, .ref a4), (1, .int (iI fr)), (2, .int (iI i))]) dX5_kindAt_17 (by decide) rfl ?_
    refine g_lv (lv1 := [(0, .ref a4), (1, .int (iI fr)), (2, .int (iI i)), (3, .int (iI fr)), (4, .int (iI (ab 0 fr))), (5, .int (iI 0))]) [3, 4, 5, 2, 1, 0] rfl ?_
    have L19 : ∀ (nn : Nat) (k : Int) (g : Int) (j : Int) (hj : 0 ≤ j ∧ j ≤ i) (hk : 0 ≤ k ∧ k ≤ 5) (hg : 0 ≤ g ∧ g ≤ 63) (hW : cW ch sn cg rs wn (i - j).toNat g k = cW ch sn cg rs wn i.toNat (ab 0 fr) fr) (hm : i - j < (nn : Int)), G X ({ frames := 4, cells := 0, slots := 0, locals := 91 } : Room) cX5_kindAt 6 RX5 wsX5_kindAt E [] 0 0 [(a4, oo 5 [.ref u1, .ref u2, .ref u3, .int (iI wn), .int (iI cg)]), (u1, aI E 36 ch), (u2, aI E 6 sn), (u3, aI E 384 rs)] [(0, .ref a4), (1, .int (iI fr)), (2, .int (iI i)), (3, .int (iI k)), (4, .int (iI g)), (5, .int (iI j))] 19 [] := by
      intro nn
      induction nn with
      | zero => intro k g j hj hk hg hW hm; exfalso; omega
      | succ nn ih19 =>
        intro k g j hj hk hg hW hm
        refine g_iload 5 dX5_kindAt_19 rfl ?_
        refine g_iload_n 2 dX5_kindAt_21 rfl rfl ?_
        refine g_icmp_ge (tgt := 56) (by unfold R32; omega) (by unfold R32; omega) dX5_kindAt_22 rfl (fun c_2 => ?_) (fun c_2 => ?_)
        · refine g_iload_n 3 dX5_kindAt_56 rfl rfl ?_
          exact g_iret hRet dX5_kindAt_57 rfl ⟨(by refine congrArg iI ?_; rw [if_neg (by omega), ← hW, show (i - j).toNat = 0 by omega]; rfl), rfl⟩
        · refine g_aload_n 0 dX5_kindAt_25 rfl rfl ?_
          refine g_iload 4 dX5_kindAt_26 rfl ?_
          refine g_iload_n 3 dX5_kindAt_28 rfl rfl ?_
          refine g_callV_i (n := 2) (As := [.int (iI g), .int (iI k)]) (wr := []) (C := RX5) [] (c_X5_nextKind E a4 u1 u2 u3 wn cg ch sn rs g k (by omega) (by omega) (by omega) (by omega) (by exact hch) (by exact hsn) (by exact hrs)) [0, 1, 2, 3] [] 0 rfl rfl gX5_kindAt_X5_nextKind rfl ⟨rfl, by decide +kernel⟩ ⟨by decide, by decide⟩ rfl rfl rfl rfl rfl (by decide) rfl (by decide) (by decide) (fun _ h => absurd h List.not_mem_nil) dX5_kindAt_29 rfl (Nat.le_of_ble_eq_true rfl) ⟨by decide, by decide⟩ (fun r u p_3 => ?_)
          obtain ⟨rfl, rfl⟩ := p_3
          have hnb := nC_b (ch := ch) (sn := sn) (cg := cg) (wn := wn) (g := g) (k := k) (rs := rs)
          refine g_istore_n (lv1 := [(3, .int (iI (nC ch sn cg rs wn g k))), (0, .ref a4), (1, .int (iI fr)), (2, .int (iI i)), (4, .int (iI g)), (5, .int (iI j))]) dX5_kindAt_32 rfl (by decide) rfl ?_
          refine g_iload_n 0 dX5_kindAt_33 rfl rfl ?_
          refine g_bipush dX5_kindAt_34 rfl ?_
          refine g_icmp_ne (tgt := 42) (by unfold R32; omega) (by unfold R32; omega) dX5_kindAt_36 rfl (fun hn4 => ?_) (fun hn4 => ?_)
          · refine g_bipush dX5_kindAt_39 rfl ?_
            exact g_iret hRet dX5_kindAt_41 rfl ⟨(by refine congrArg iI ?_; rw [if_neg (by omega), ← hW, show (i - j).toNat = (i - (j + 1)).toNat + 1 by omega]; exact (if_pos hn4).symm), rfl⟩
          · refine g_iload 4 dX5_kindAt_42 rfl ?_
            refine g_iconst dX5_kindAt_44 ?_
            refine g_iload_n 0 dX5_kindAt_45 rfl rfl ?_
            refine g_ishl dX5_kindAt_46 ?_
            refine g_ior dX5_kindAt_47 ?_
            refine g_top (y := iI (ab g (nC ch sn cg rs wn g k))) (b32 hg (by omega)).2.2.1 ?_
            refine g_istore (lv1 := [(4, .int (iI (ab g (nC ch sn cg rs wn g k)))), (3, .int (iI (nC ch sn cg rs wn g k))), (0, .ref a4), (1, .int (iI fr)), (2, .int (iI i)), (5, .int (iI j))]) dX5_kindAt_48 (by decide) rfl ?_
            refine g_iinc (lv1 := [(5, .int (iI (j + 1))), (4, .int (iI (ab g (nC ch sn cg rs wn g k)))), (3, .int (iI (nC ch sn cg rs wn g k))), (0, .ref a4), (1, .int (iI fr)), (2, .int (iI i))]) 5 dX5_kindAt_50 rfl (by decide) rfl ?_
            refine g_goto (tgt := 19) dX5_kindAt_53 rfl ?_
            refine g_lv (lv1 := [(0, .ref a4), (1, .int (iI fr)), (2, .int (iI i)), (3, .int (iI (nC ch sn cg rs wn g k))), (4, .int (iI (ab g (nC ch sn cg rs wn g k)))), (5, .int (iI (j + 1)))]) [3, 4, 5, 2, 1, 0] rfl ?_
            exact ih19 (nC ch sn cg rs wn g k) (ab g (nC ch sn cg rs wn g k)) (j + 1) (by omega) (by omega) (by exact (fin1 hg (by omega)).2.2.2.1) (by rw [← hW, show (i - j).toNat = (i - (j + 1)).toNat + 1 by omega]; exact (if_neg hn4).symm) (by omega)
    exact L19 _ fr (ab 0 fr) 0 (by omega) (by omega) (by exact (fin1 (s := 0) (by omega) hfr).2.2.2.1) (by rw [Int.sub_zero]) (lt_nn _)
  · refine g_bipush dX5_kindAt_6 rfl ?_
    exact g_iret hRet dX5_kindAt_8 rfl ⟨(by exact congrArg iI (by rw [if_pos (by omega)])), rfl⟩

set_option maxHeartbeats 4000000 in
set_option maxRecDepth 100000 in
theorem c_X6_tour (E : Ev) (x0 : Nat) (h0 : Nat) (a3 : Nat) (a4 : Nat) (a5 : Nat) (lo : Int) (v : Nat) (u1 : Nat) (u2 : Nat) (u3 : Nat) (wn : Int) (cg : Int) (ch : Int → Int) (sn : Int → Int) (rs : Int → Int) (ru : Int → Int) (s : Int) (fr : Int) (i : Int) (hru : (1 ≤ ru 0 ∧ ru 0 ≤ 12) ∧ (1 ≤ ru 1 ∧ ru 1 ≤ 20) ∧ (0 ≤ ru 2 ∧ ru 2 ≤ 10000) ∧ (0 ≤ ru 3 ∧ ru 3 ≤ 10000) ∧ (0 ≤ ru 4 ∧ ru 4 ≤ 1000) ∧ (0 ≤ ru 5 ∧ ru 5 ≤ 500)) (hch : ∀ i, 0 ≤ ch i ∧ ch i ≤ 500) (hsn : ∀ i, 0 ≤ sn i ∧ sn i ≤ 3) (hrs : rOk rs) (h_s : -2147483648 ≤ s ∧ s ≤ 2147483647) (h_fr : -2147483648 ≤ fr ∧ fr ≤ 2147483647) (h_i : -2147483648 ≤ i ∧ i ≤ 2147483647) : MI yX6_tour wsX6_tour ({ frames := 6, cells := 0, slots := 0, locals := 138 } : Room) E [] 0 0 [.ref x0, .int (iI s), .int (iI fr), .int (iI i)] [(x0, oo 6 [.ref v, .ref h0, .ref a3, .ref a4, .ref a5, .int (iI lo)]), (a4, oo 5 [.ref u1, .ref u2, .ref u3, .int (iI wn), .int (iI cg)]), (u1, aI E 36 ch), (u2, aI E 6 sn), (u3, aI E 384 rs), (a5, aI E 6 ru)] (fun r u => ∃ (x : Int), ∃ (rs' : Int → Int), ∃ (wn' : Int), ∃ (cg' : Int), x = f_tour (f_min ch sn (ru 5)) s fr i ∧ rOk rs' ∧ r = iI x ∧ u = [(x0, oo 6 [.ref v, .ref h0, .ref a3, .ref a4, .ref a5, .int (iI lo)]), (a4, oo 5 [.ref u1, .ref u2, .ref u3, .int (iI wn'), .int (iI cg')]), (u1, aI E 36 ch), (u2, aI E 6 sn), (u3, aI E 384 rs'), (a5, aI E 6 ru)]) := by
  refine MI.of (cc := cX6_tour) (maxL := 4) (own := RX6) (by decide) rfl rfl rfl (Nat.le_of_ble_eq_true rfl) [(0, .ref x0), (1, .int (iI s)), (2, .int (iI fr)), (3, .int (iI i))] rfl ?_
  intro X hin2 hRet
  refine g_iload_n 1 dX6_tour_0 rfl rfl ?_
  refine g_iconst dX6_tour_1 ?_
  refine g_bipush dX6_tour_2 rfl ?_
  refine g_callS_i (n := 3) (As := [.int (iI s), .int (iI 1), .int (iI 63)]) (wr := [(x0, oo 6 [.ref v, .ref h0, .ref a3, .ref a4, .ref a5, .int (iI lo)]), (a4, oo 5 [.ref u1, .ref u2, .ref u3, .int (iI wn), .int (iI cg)]), (u1, aI E 36 ch), (u2, aI E 6 sn), (u3, aI E 384 rs), (a5, aI E 6 ru)]) [] (c_X6_within E s 1 63 (by omega) (by omega) (by omega)) [] [0, 1, 2, 3, 4, 5] gX6_tour_X6_within rfl ⟨rfl, by decide +kernel⟩ ⟨by decide, by decide⟩ rfl rfl rfl rfl rfl (by decide) rfl (by decide) (by decide) (fun _ h => absurd h List.not_mem_nil) dX6_tour_4 rfl (Nat.le_of_ble_eq_true rfl) ⟨by decide, by decide⟩ (fun r u p_1 => ?_)
  obtain ⟨rfl, rfl⟩ := p_1
  refine g_perm (ws1 := [(x0, oo 6 [.ref v, .ref h0, .ref a3, .ref a4, .ref a5, .int (iI lo)]), (a4, oo 5 [.ref u1, .ref u2, .ref u3, .int (iI wn), .int (iI cg)]), (u1, aI E 36 ch), (u2, aI E 6 sn), (u3, aI E 384 rs), (a5, aI E 6 ru)]) [0, 1, 2, 3, 4, 5] rfl (by decide) rfl ?_
  refine g_if_eq_b (tgt := 30) dX6_tour_7 rfl (fun c_2 => ?_) (fun c_2 => ?_)
  · refine g_iload_n 2 dX6_tour_10 rfl rfl ?_
    refine g_callS_i (n := 1) (As := [.int (iI fr)]) (wr := [(x0, oo 6 [.ref v, .ref h0, .ref a3, .ref a4, .ref a5, .int (iI lo)]), (a4, oo 5 [.ref u1, .ref u2, .ref u3, .int (iI wn), .int (iI cg)]), (u1, aI E 36 ch), (u2, aI E 6 sn), (u3, aI E 384 rs), (a5, aI E 6 ru)]) [] (c_X6_isKind E fr (by omega)) [] [0, 1, 2, 3, 4, 5] gX6_tour_X6_isKind rfl ⟨rfl, by decide +kernel⟩ ⟨by decide, by decide⟩ rfl rfl rfl rfl rfl (by decide) rfl (by decide) (by decide) (fun _ h => absurd h List.not_mem_nil) dX6_tour_11 rfl (Nat.le_of_ble_eq_true rfl) ⟨by decide, by decide⟩ (fun r u p_3 => ?_)
    obtain ⟨rfl, rfl⟩ := p_3
    refine g_perm (ws1 := [(x0, oo 6 [.ref v, .ref h0, .ref a3, .ref a4, .ref a5, .int (iI lo)]), (a4, oo 5 [.ref u1, .ref u2, .ref u3, .int (iI wn), .int (iI cg)]), (u1, aI E 36 ch), (u2, aI E 6 sn), (u3, aI E 384 rs), (a5, aI E 6 ru)]) [0, 1, 2, 3, 4, 5] rfl (by decide) rfl ?_
    refine g_if_eq_b (tgt := 30) dX6_tour_14 rfl (fun c_4 => ?_) (fun c_4 => ?_)
    · refine g_iload_n 1 dX6_tour_17 rfl rfl ?_
      refine g_iload_n 2 dX6_tour_18 rfl rfl ?_
      refine g_callO_i (n := 2) (As := [.int (iI s), .int (iI fr)]) (wr := [(x0, oo 6 [.ref v, .ref h0, .ref a3, .ref a4, .ref a5, .int (iI lo)]), (a4, oo 5 [.ref u1, .ref u2, .ref u3, .int (iI wn), .int (iI cg)]), (u1, aI E 36 ch), (u2, aI E 6 sn), (u3, aI E 384 rs), (a5, aI E 6 ru)]) [] (c_X5_isIn E s fr (by omega) (by omega)) [] [0, 1, 2, 3, 4, 5] gX6_tour_X5_isIn rfl (by decide +kernel) ⟨by decide, by decide⟩ rfl rfl rfl rfl rfl (by decide) rfl (by decide) (by decide) (fun _ h => absurd h List.not_mem_nil) dX6_tour_19 rfl (Nat.le_of_ble_eq_true rfl) ⟨by decide, by decide⟩ (fun r u p_5 => ?_)
      obtain ⟨rfl, rfl⟩ := p_5
      refine g_perm (ws1 := [(x0, oo 6 [.ref v, .ref h0, .ref a3, .ref a4, .ref a5, .int (iI lo)]), (a4, oo 5 [.ref u1, .ref u2, .ref u3, .int (iI wn), .int (iI cg)]), (u1, aI E 36 ch), (u2, aI E 6 sn), (u3, aI E 384 rs), (a5, aI E 6 ru)]) [0, 1, 2, 3, 4, 5] rfl (by decide) rfl ?_
      refine g_if_eq_b (tgt := 30) dX6_tour_22 rfl (fun hbit => ?_) (fun hbit => ?_)
      · refine g_iload_n 3 dX6_tour_25 rfl rfl ?_
        refine g_iconst dX6_tour_26 ?_
        refine g_icmp_ge (tgt := 32) (by unfold R32; omega) (by unfold R32; omega) dX6_tour_27 rfl (fun c_6 => ?_) (fun c_6 => ?_)
        · refine g_aload_n 0 dX6_tour_32 rfl rfl ?_
          refine g_get (C := RX6) (T := TX6) (N := 6) 0 3 (fun _ h => List.mem_cons_of_mem _ (List.mem_append_left _ (List.mem_append_right _ h))) (List.mem_of_getElem? (i := 1) rfl) rfl rfl (by decide) rfl rfl dX6_tour_33 ?_
          refine g_iload_n 1 dX6_tour_36 rfl rfl ?_
          refine g_aload_n 0 dX6_tour_37 rfl rfl ?_
          refine g_get (C := RX6) (T := TX6) (N := 6) 0 4 (fun _ h => List.mem_cons_of_mem _ (List.mem_append_left _ (List.mem_append_right _ h))) (List.mem_of_getElem? (i := 2) rfl) rfl rfl (by decide) rfl rfl dX6_tour_38 ?_
          refine g_iconst dX6_tour_41 ?_
          refine g_iald 5 dX6_tour_42 rfl (by decide) (by omega) (by omega) ?_
          refine g_callV_v (n := 2) (As := [.int (iI s), .int (iI (ru 5))]) (wr := [(x0, oo 6 [.ref v, .ref h0, .ref a3, .ref a4, .ref a5, .int (iI lo)]), (a5, aI E 6 ru)]) (C := RX5) [] (c_X5_find E a4 u1 u2 u3 wn cg ch sn rs s (ru 5) (by omega) (by omega) (by exact hch) (by exact hsn) (by exact hrs)) [1, 2, 3, 4] [0, 5] 0 rfl rfl gX6_tour_X5_find rfl ⟨rfl, by decide +kernel⟩ ⟨by decide, by decide⟩ rfl rfl rfl rfl rfl (by decide) rfl (by decide) (by decide) (fun _ h => absurd h List.not_mem_nil) dX6_tour_43 rfl (Nat.le_of_ble_eq_true rfl) ⟨by decide, by decide⟩ (fun u p_7 => ?_)
          obtain ⟨rr, hfind, rfl⟩ := p_7
          refine g_perm (ws1 := [(x0, oo 6 [.ref v, .ref h0, .ref a3, .ref a4, .ref a5, .int (iI lo)]), (a4, oo 5 [.ref u1, .ref u2, .ref u3, .int (iI s), .int (iI (ru 5))]), (u1, aI E 36 ch), (u2, aI E 6 sn), (u3, aI E 384 rr), (a5, aI E 6 ru)]) [0, 2, 3, 4, 5, 1] rfl (by decide) rfl ?_
          refine g_iload_n 3 dX6_tour_46 rfl rfl ?_
          refine g_iconst dX6_tour_47 ?_
          refine g_icmp_ne (tgt := 62) (by unfold R32; omega) (by unfold R32; omega) dX6_tour_48 rfl (fun c_8 => ?_) (fun c_8 => ?_)
          · refine g_aload_n 0 dX6_tour_51 rfl rfl ?_
            refine g_get (C := RX6) (T := TX6) (N := 6) 0 3 (fun _ h => List.mem_cons_of_mem _ (List.mem_append_left _ (List.mem_append_right _ h))) (List.mem_of_getElem? (i := 1) rfl) rfl rfl (by decide) rfl rfl dX6_tour_52 ?_
            refine g_iload_n 2 dX6_tour_55 rfl rfl ?_
            refine g_callV_i (n := 1) (As := [.int (iI fr)]) (wr := [(x0, oo 6 [.ref v, .ref h0, .ref a3, .ref a4, .ref a5, .int (iI lo)]), (u1, aI E 36 ch), (u2, aI E 6 sn), (a5, aI E 6 ru)]) (C := RX5) [] (c_X5_least E a4 u1 u2 u3 s (ru 5) rr fr (by omega)) [1, 4] [0, 2, 3, 5] 0 rfl rfl gX6_tour_X5_least rfl ⟨rfl, by decide +kernel⟩ ⟨by decide, by decide⟩ rfl rfl rfl rfl rfl (by decide) rfl (by decide) (by decide) (fun _ h => absurd h List.not_mem_nil) dX6_tour_56 rfl (Nat.le_of_ble_eq_true rfl) ⟨by decide, by decide⟩ (fun r u p_9 => ?_)
            obtain ⟨rfl, rfl⟩ := p_9
            refine g_perm (ws1 := [(x0, oo 6 [.ref v, .ref h0, .ref a3, .ref a4, .ref a5, .int (iI lo)]), (a4, oo 5 [.ref u1, .ref u2, .ref u3, .int (iI s), .int (iI (ru 5))]), (u1, aI E 36 ch), (u2, aI E 6 sn), (u3, aI E 384 rr), (a5, aI E 6 ru)]) [0, 4, 1, 2, 5, 3] rfl (by decide) rfl ?_
            refine g_goto (tgt := 71) dX6_tour_59 rfl ?_
            exact g_iret hRet dX6_tour_71 rfl ⟨(rr (ab 0 fr * 6 + fr)), rr, s, (ru 5), (by first | (rw [tourC_w hfind.2 (by omega) (by omega) hbit (by omega)]; unfold f_tour; rw [if_neg (by omega), if_neg (by omega)]; done) | (unfold f_tour; rw [if_neg (by omega), if_pos (by omega)]; exact tourC_l hfind.2 (by omega) (by omega) hbit)), (by exact hfind.1), rfl, rfl⟩
          · refine g_aload_n 0 dX6_tour_62 rfl rfl ?_
            refine g_get (C := RX6) (T := TX6) (N := 6) 0 3 (fun _ h => List.mem_cons_of_mem _ (List.mem_append_left _ (List.mem_append_right _ h))) (List.mem_of_getElem? (i := 1) rfl) rfl rfl (by decide) rfl rfl dX6_tour_63 ?_
            refine g_iload_n 2 dX6_tour_66 rfl rfl ?_
            refine g_iload_n 3 dX6_tour_67 rfl rfl ?_
            refine g_callV_i (n := 2) (As := [.int (iI fr), .int (iI i)]) (wr := [(x0, oo 6 [.ref v, .ref h0, .ref a3, .ref a4, .ref a5, .int (iI lo)]), (a5, aI E 6 ru)]) (C := RX5) [] (c_X5_kindAt E a4 u1 u2 u3 s (ru 5) ch sn rr fr i (by omega) (by omega) (by omega) (by omega) (by exact hch) (by exact hsn) (by exact hfind.1)) [1, 2, 3, 4] [0, 5] 0 rfl rfl gX6_tour_X5_kindAt rfl ⟨rfl, by decide +kernel⟩ ⟨by decide, by decide⟩ rfl rfl rfl rfl rfl (by decide) rfl (by decide) (by decide) (fun _ h => absurd h List.not_mem_nil) dX6_tour_68 rfl (Nat.le_of_ble_eq_true rfl) ⟨by decide, by decide⟩ (fun r u p_10 => ?_)
            obtain ⟨rfl, rfl⟩ := p_10
            refine g_perm (ws1 := [(x0, oo 6 [.ref v, .ref h0, .ref a3, .ref a4, .ref a5, .int (iI lo)]), (a4, oo 5 [.ref u1, .ref u2, .ref u3, .int (iI s), .int (iI (ru 5))]), (u1, aI E 36 ch), (u2, aI E 6 sn), (u3, aI E 384 rr), (a5, aI E 6 ru)]) [0, 2, 3, 4, 5, 1] rfl (by decide) rfl ?_
            exact g_iret hRet dX6_tour_71 rfl ⟨(if 6 ≤ i then -4 else cW ch sn (ru 5) rr s i.toNat (ab 0 fr) fr), rr, s, (ru 5), (by first | (rw [tourC_w hfind.2 (by omega) (by omega) hbit (by omega)]; unfold f_tour; rw [if_neg (by omega), if_neg (by omega)]; done) | (unfold f_tour; rw [if_neg (by omega), if_pos (by omega)]; exact tourC_l hfind.2 (by omega) (by omega) hbit)), (by exact hfind.1), rfl, rfl⟩
        · refine g_iconst dX6_tour_30 ?_
          exact g_iret hRet dX6_tour_31 rfl ⟨(-1), rs, wn, cg, (by unfold f_tour; rw [if_pos (by omega)]), (by exact hrs), rfl, rfl⟩
      · refine g_iconst dX6_tour_30 ?_
        exact g_iret hRet dX6_tour_31 rfl ⟨(-1), rs, wn, cg, (by unfold f_tour; rw [if_pos (by omega)]), (by exact hrs), rfl, rfl⟩
    · refine g_iconst dX6_tour_30 ?_
      exact g_iret hRet dX6_tour_31 rfl ⟨(-1), rs, wn, cg, (by unfold f_tour; rw [if_pos (by omega)]), (by exact hrs), rfl, rfl⟩
  · refine g_iconst dX6_tour_30 ?_
    exact g_iret hRet dX6_tour_31 rfl ⟨(-1), rs, wn, cg, (by unfold f_tour; rw [if_pos (by omega)]), (by exact hrs), rfl, rfl⟩

end TOURS1
