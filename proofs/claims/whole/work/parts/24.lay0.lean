section LAYERS0
abbrev Qd : Type := Int × Int × Int × Int
def tb (f : Int → Int) (w h : Int) : Int := f (13 * w + h)
def cU (M : Int → Int → Int) (w h k : Int) : Int := M k h + M (w - k) h
def cL (M : Int → Int → Int) (w h k : Int) : Int := M w k + M w (h - k)
def cP (M : Int → Int → Int) (w h x1 x2 y1 y2 : Int) : Int := M x1 y2 + M (w - x1) y1 + M (w - x2) (h - y1) + M x2 (h - y2) + M (x2 - x1) (y2 - y1)
def bs (a b w h : Int) : Int := if (a ≤ w ∧ b ≤ h) ∨ (b ≤ w ∧ a ≤ h) then 1 else 0
def vN (n w h x1 x2 y1 y2 : Int) : Prop := n ≤ x1 ∧ x1 < x2 ∧ x2 ≤ w - n ∧ n ≤ y1 ∧ y1 < y2 ∧ y2 ≤ h - n
def isB (a b : Int) (M : Int → Int → Int) (w h v : Int) : Prop :=
  (bs a b w h ≤ v ∧ (∀ k, 1 ≤ k → k < w → cU M w h k ≤ v) ∧ (∀ k, 1 ≤ k → k < h → cL M w h k ≤ v) ∧ ∀ x1 x2 y1 y2, vN 1 w h x1 x2 y1 y2 → cP M w h x1 x2 y1 y2 ≤ v) ∧
  (v = bs a b w h ∨ (∃ k, 1 ≤ k ∧ k < w ∧ v = cU M w h k) ∨ (∃ k, 1 ≤ k ∧ k < h ∧ v = cL M w h k) ∨ ∃ x1 x2 y1 y2, vN 1 w h x1 x2 y1 y2 ∧ v = cP M w h x1 x2 y1 y2)
def sB (w h w' h' : Int) : Prop := 1 ≤ w' ∧ w' ≤ w ∧ 1 ≤ h' ∧ h' ≤ h ∧ (w' < w ∨ h' < h)
def gB (a b : Int) (M : Int → Int → Int) (w h : Int) : Prop := ∀ w' h', sB w h w' h' → isB a b M w' h' (M w' h')
def gT (a b : Int) (M : Int → Int → Int) (X Y : Int) : Prop := ∀ w h, 1 ≤ w → w ≤ X → 1 ≤ h → h ≤ Y → isB a b M w h (M w h)
theorem cU_c {M N : Int → Int → Int} {w h k : Int} (e : ∀ w' h', sB w h w' h' → M w' h' = N w' h') (h1 : 1 ≤ h) (a : 1 ≤ k) (b : k < w) : cU M w h k = cU N w h k := by
  have e1 := e k h (by unfold sB; omega)
  have e2 := e (w - k) h (by unfold sB; omega)
  unfold cU
  omega
theorem cL_c {M N : Int → Int → Int} {w h k : Int} (e : ∀ w' h', sB w h w' h' → M w' h' = N w' h') (h1 : 1 ≤ w) (a : 1 ≤ k) (b : k < h) : cL M w h k = cL N w h k := by
  have e1 := e w k (by unfold sB; omega)
  have e2 := e w (h - k) (by unfold sB; omega)
  unfold cL
  omega
theorem cP_c {M N : Int → Int → Int} {w h x1 x2 y1 y2 n : Int} (e : ∀ w' h', sB w h w' h' → M w' h' = N w' h') (hn : 1 ≤ n) (hv : vN n w h x1 x2 y1 y2) : cP M w h x1 x2 y1 y2 = cP N w h x1 x2 y1 y2 := by
  unfold vN at hv
  have e1 := e x1 y2 (by unfold sB; omega)
  have e2 := e (w - x1) y1 (by unfold sB; omega)
  have e3 := e (w - x2) (h - y1) (by unfold sB; omega)
  have e4 := e x2 (h - y2) (by unfold sB; omega)
  have e5 := e (x2 - x1) (y2 - y1) (by unfold sB; omega)
  unfold cP
  omega
theorem isB_c {a b : Int} {M N : Int → Int → Int} {w h v : Int} (e : ∀ w' h', sB w h w' h' → M w' h' = N w' h') (h1 : 1 ≤ w) (h2 : 1 ≤ h) (H : isB a b M w h v) : isB a b N w h v := by
  obtain ⟨⟨c0, c1, c2, c3⟩, d⟩ := H
  refine ⟨⟨c0, fun k k1 k2 => by rw [← cU_c e h2 k1 k2]; exact c1 k k1 k2, fun k k1 k2 => by rw [← cL_c e h1 k1 k2]; exact c2 k k1 k2, fun x1 x2 y1 y2 hv => by rw [← cP_c e (by omega) hv]; exact c3 _ _ _ _ hv⟩, ?_⟩
  rcases d with d | ⟨k, k1, k2, d⟩ | ⟨k, k1, k2, d⟩ | ⟨x1, x2, y1, y2, hv, d⟩
  · exact Or.inl d
  · exact Or.inr (Or.inl ⟨k, k1, k2, by rw [← cU_c e h2 k1 k2]; exact d⟩)
  · exact Or.inr (Or.inr (Or.inl ⟨k, k1, k2, by rw [← cL_c e h1 k1 k2]; exact d⟩))
  · exact Or.inr (Or.inr (Or.inr ⟨x1, x2, y1, y2, hv, by rw [← cP_c e (by omega) hv]; exact d⟩))
theorem isB_le {a b : Int} {M : Int → Int → Int} {w h v v' : Int} (H : isB a b M w h v) (K : isB a b M w h v') : v ≤ v' := by
  rcases H.2 with d | ⟨k, k1, k2, d⟩ | ⟨k, k1, k2, d⟩ | ⟨x1, x2, y1, y2, hv, d⟩
  · rw [d]; exact K.1.1
  · rw [d]; exact K.1.2.1 k k1 k2
  · rw [d]; exact K.1.2.2.1 k k1 k2
  · rw [d]; exact K.1.2.2.2 _ _ _ _ hv
theorem gT_uN {a b : Int} {M N : Int → Int → Int} {X Y : Int} (hM : gT a b M X Y) (hN : gT a b N X Y) : ∀ (n : Nat) (w h : Int), w + h ≤ (n : Int) → 1 ≤ w → w ≤ X → 1 ≤ h → h ≤ Y → M w h = N w h
  | 0, w, h, hn, a1, a2, b1, b2 => by omega
  | n + 1, w, h, hn, a1, a2, b1, b2 => by
    have e : ∀ w' h', sB w h w' h' → M w' h' = N w' h' := fun w' h' hs => by
      unfold sB at hs
      exact gT_uN hM hN n w' h' (by omega) (by omega) (by omega) (by omega) (by omega)
    have h1 := isB_c e a1 b1 (hM w h a1 a2 b1 b2)
    have h2 := hN w h a1 a2 b1 b2
    exact Int.le_antisymm (isB_le h1 h2) (isB_le h2 h1)
theorem gT_u {a b : Int} {M N : Int → Int → Int} {X Y : Int} (hM : gT a b M X Y) (hN : gT a b N X Y) {w h : Int} (a1 : 1 ≤ w) (a2 : w ≤ X) (b1 : 1 ≤ h) (b2 : h ≤ Y) : M w h = N w h := gT_uN hM hN (w + h).toNat w h (by omega) a1 a2 b1 b2
theorem bs_01 (a b w h : Int) : 0 ≤ bs a b w h ∧ bs a b w h ≤ 1 := by unfold bs; split <;> omega
theorem isB_0 {a b : Int} {M : Int → Int → Int} {w h v : Int} (H : isB a b M w h v) : 0 ≤ v := by
  have h1 := H.1.1
  have h2 := bs_01 a b w h
  omega
theorem gB_m {a b : Int} {M : Int → Int → Int} {w h w' h' : Int} (G : gB a b M w h) (h1 : w' ≤ w) (h2 : h' ≤ h) : gB a b M w' h' := fun w1 h3 hs => G w1 h3 (by unfold sB at *; omega)
theorem bs_area {a b w h : Int} (ha : 1 ≤ a) (hb : 1 ≤ b) (hw : 1 ≤ w) (hh : 1 ≤ h) : bs a b w h * (a * b) ≤ w * h := by
  unfold bs
  split
  · rename_i q
    rw [Int.one_mul]
    rcases q with q | q
    · exact Int.mul_le_mul q.1 q.2 (by omega) (by omega)
    · rw [Int.mul_comm a b]
      exact Int.mul_le_mul q.1 q.2 (by omega) (by omega)
  · rw [Int.zero_mul]
    exact Int.mul_nonneg (by omega) (by omega)
theorem cP_area {c : Int} {M : Int → Int → Int} {w h x1 x2 y1 y2 : Int} (e : ∀ w' h', sB w h w' h' → M w' h' * c ≤ w' * h') (hv : vN 1 w h x1 x2 y1 y2) : cP M w h x1 x2 y1 y2 * c ≤ w * h := by
  unfold vN at hv
  have e1 := e x1 y2 (by unfold sB; omega)
  have e2 := e (w - x1) y1 (by unfold sB; omega)
  have e3 := e (w - x2) (h - y1) (by unfold sB; omega)
  have e4 := e x2 (h - y2) (by unfold sB; omega)
  have e5 := e (x2 - x1) (y2 - y1) (by unfold sB; omega)
  unfold cP
  generalize M x1 y2 = m1 at *
  generalize M (w - x1) y1 = m2 at *
  generalize M (w - x2) (h - y1) = m3 at *
  generalize M x2 (h - y2) = m4 at *
  generalize M (x2 - x1) (y2 - y1) = m5 at *
  simp only [Int.add_mul]
  simp only [Int.sub_mul, Int.mul_sub] at e1 e2 e3 e4 e5
  omega
theorem area_B {a b : Int} {M : Int → Int → Int} {w h v : Int} (ha : 1 ≤ a) (hb : 1 ≤ b) (hw : 1 ≤ w) (hh : 1 ≤ h) (H : isB a b M w h v) (e : ∀ w' h', sB w h w' h' → M w' h' * (a * b) ≤ w' * h') : v * (a * b) ≤ w * h := by
  rcases H.2 with d | ⟨k, k1, k2, d⟩ | ⟨k, k1, k2, d⟩ | ⟨x1, x2, y1, y2, hv, d⟩
  · rw [d]; exact bs_area ha hb hw hh
  · have e1 := e k h (by unfold sB; omega)
    have e2 := e (w - k) h (by unfold sB; omega)
    rw [d]
    unfold cU
    generalize M k h = m1 at *
    generalize M (w - k) h = m2 at *
    generalize a * b = c at *
    rw [Int.add_mul]
    rw [Int.sub_mul] at e2
    omega
  · have e1 := e w k (by unfold sB; omega)
    have e2 := e w (h - k) (by unfold sB; omega)
    rw [d]
    unfold cL
    generalize M w k = m1 at *
    generalize M w (h - k) = m2 at *
    generalize a * b = c at *
    rw [Int.add_mul]
    rw [Int.mul_sub] at e2
    omega
  · rw [d]; exact cP_area e hv
theorem area_T {a b : Int} {M : Int → Int → Int} (ha : 1 ≤ a) (hb : 1 ≤ b) : ∀ (n : Nat) (w h : Int), w + h ≤ (n : Int) → 1 ≤ w → 1 ≤ h → gB a b M w h → isB a b M w h (M w h) → M w h * (a * b) ≤ w * h
  | 0, w, h, hn, a1, b1, _, _ => by omega
  | n + 1, w, h, hn, a1, b1, G, H => area_B ha hb a1 b1 H (fun w' h' hs => by
      have hs' := hs
      unfold sB at hs'
      exact area_T ha hb n w' h' (by omega) (by omega) (by omega) (gB_m G (by omega) (by omega)) (G w' h' hs))
theorem area_G {a b : Int} {M : Int → Int → Int} {w h : Int} (ha : 1 ≤ a) (hb : 1 ≤ b) (G : gB a b M w h) : ∀ w' h', sB w h w' h' → M w' h' * (a * b) ≤ w' * h' := fun w' h' hs => by
  have hs' := hs
  unfold sB at hs'
  exact area_T ha hb (w' + h').toNat w' h' (by omega) (by omega) (by omega) (gB_m G (by omega) (by omega)) (G w' h' hs)
theorem ab_1 {a b : Int} (ha : 1 ≤ a) (hb : 1 ≤ b) : 1 ≤ a * b := by
  have := Int.mul_le_mul ha hb (by omega) (by omega : (0:Int) ≤ a)
  omega
theorem le_area {v c p : Int} (hv : 0 ≤ v) (hc : 1 ≤ c) (h : v * c ≤ p) : v ≤ p := by
  have := Int.mul_le_mul_of_nonneg_left hc hv
  omega
theorem wh_144 {w h : Int} (hw : 0 ≤ w ∧ w ≤ 12) (hh : 0 ≤ h ∧ h ≤ 12) : w * h ≤ 144 := by
  have := Int.mul_le_mul hw.2 hh.2 hh.1 (by omega : (0:Int) ≤ 12)
  omega
theorem isB_144 {a b : Int} {M : Int → Int → Int} {w h v : Int} (ha : 1 ≤ a) (hb : 1 ≤ b) (hw : 1 ≤ w ∧ w ≤ 12) (hh : 1 ≤ h ∧ h ≤ 12) (H : isB a b M w h v) (G : gB a b M w h) : 0 ≤ v ∧ v ≤ 144 := by
  have h1 := area_B ha hb hw.1 hh.1 H (area_G ha hb G)
  have h2 := le_area (isB_0 H) (ab_1 ha hb) h1
  have h3 := wh_144 (w := w) (h := h) (by omega) (by omega)
  have h4 := isB_0 H
  omega
theorem fit_T {a b : Int} {M : Int → Int → Int} : ∀ (n : Nat) (w h : Int), w + h ≤ (n : Int) → 1 ≤ w → 1 ≤ h → gB a b M w h → isB a b M w h (M w h) → 1 ≤ M w h → (a ≤ w ∧ b ≤ h) ∨ (b ≤ w ∧ a ≤ h)
  | 0, w, h, hn, a1, b1, _, _, _ => by omega
  | n + 1, w, h, hn, a1, b1, G, H, h1 => by
    have e : ∀ w' h', sB w h w' h' → 1 ≤ M w' h' → (a ≤ w ∧ b ≤ h) ∨ (b ≤ w ∧ a ≤ h) := fun w' h' hs q => by
      have hs' := hs
      unfold sB at hs'
      have := fit_T n w' h' (by omega) (by omega) (by omega) (gB_m G (by omega) (by omega)) (G w' h' hs) q
      omega
    rcases H.2 with d | ⟨k, k1, k2, d⟩ | ⟨k, k1, k2, d⟩ | ⟨x1, x2, y1, y2, hv, d⟩
    · rw [d] at h1
      unfold bs at h1
      by_cases q : (a ≤ w ∧ b ≤ h) ∨ (b ≤ w ∧ a ≤ h)
      · exact q
      · rw [if_neg q] at h1; omega
    · unfold cU at d
      rcases (show 1 ≤ M k h ∨ 1 ≤ M (w - k) h by omega) with q | q
      · exact e _ _ (by unfold sB; omega) q
      · exact e _ _ (by unfold sB; omega) q
    · unfold cL at d
      rcases (show 1 ≤ M w k ∨ 1 ≤ M w (h - k) by omega) with q | q
      · exact e _ _ (by unfold sB; omega) q
      · exact e _ _ (by unfold sB; omega) q
    · unfold cP at d
      unfold vN at hv
      rcases (show 1 ≤ M x1 y2 ∨ 1 ≤ M (w - x1) y1 ∨ 1 ≤ M (w - x2) (h - y1) ∨ 1 ≤ M x2 (h - y2) ∨ 1 ≤ M (x2 - x1) (y2 - y1) by omega) with q | q | q | q | q
      · exact e _ _ (by unfold sB; omega) q
      · exact e _ _ (by unfold sB; omega) q
      · exact e _ _ (by unfold sB; omega) q
      · exact e _ _ (by unfold sB; omega) q
      · exact e _ _ (by unfold sB; omega) q
theorem zero_n {a b n : Int} {M : Int → Int → Int} {w h w' h' : Int} (hn : n ≤ a ∧ n ≤ b) (G : gB a b M w h) (hs : sB w h w' h') (hz : w' < n ∨ h' < n) : M w' h' ≤ 0 := by
  have hs' := hs
  unfold sB at hs'
  rcases Int.lt_or_le 0 (M w' h') with q | q
  · have := fit_T (w' + h').toNat w' h' (by omega) (by omega) (by omega) (gB_m G (by omega) (by omega)) (G w' h' hs) (by omega)
    omega
  · exact q
theorem xP {a b n v w h x1 x2 y1 y2 : Int} {M : Int → Int → Int} (hn : n ≤ a ∧ n ≤ b) (G : gB a b M w h) (hU : ∀ k, 1 ≤ k → k < w → cU M w h k ≤ v) (hL : ∀ k, 1 ≤ k → k < h → cL M w h k ≤ v) (hv : vN 1 w h x1 x2 y1 y2) (hx : ¬ vN n w h x1 x2 y1 y2) : cP M w h x1 x2 y1 y2 ≤ v := by
  have hx : x1 < n ∨ w - x2 < n ∨ y1 < n ∨ h - y2 < n := by unfold vN at *; omega
  unfold vN at hv
  have z : ∀ w' h', sB w h w' h' → 0 ≤ M w' h' := fun w' h' hs => isB_0 (G w' h' hs)
  have sU : ∀ w' h' k, sB w h w' h' → 1 ≤ k → k < w' → M k h' + M (w' - k) h' ≤ M w' h' := fun w' h' k hs k1 k2 => (G w' h' hs).1.2.1 k k1 k2
  have sL : ∀ w' h' k, sB w h w' h' → 1 ≤ k → k < h' → M w' k + M w' (h' - k) ≤ M w' h' := fun w' h' k hs k1 k2 => (G w' h' hs).1.2.2.1 k k1 k2
  unfold cP
  rcases hx with hx | hx | hx | hx
  · have q0 := zero_n hn G (w' := x1) (h' := y2) (by unfold sB; omega) (Or.inl hx)
    have q1 := hL y1 (by omega) (by omega)
    unfold cL at q1
    have m1 := sU w y1 (w - x1) (by unfold sB; omega) (by omega) (by omega)
    have z1 := z (w - (w - x1)) y1 (by unfold sB; omega)
    have m2 := sU w (h - y1) x2 (by unfold sB; omega) (by omega) (by omega)
    have m3 := sL x2 (h - y1) (h - y2) (by unfold sB; omega) (by omega) (by omega)
    rw [show h - y1 - (h - y2) = y2 - y1 by omega] at m3
    have m4 := sU x2 (y2 - y1) (x2 - x1) (by unfold sB; omega) (by omega) (by omega)
    have z4 := z (x2 - (x2 - x1)) (y2 - y1) (by unfold sB; omega)
    omega
  · have q0 := zero_n hn G (w' := w - x2) (h' := h - y1) (by unfold sB; omega) (Or.inl hx)
    have q1 := hL y2 (by omega) (by omega)
    unfold cL at q1
    have m1 := sU w (h - y2) x2 (by unfold sB; omega) (by omega) (by omega)
    have z1 := z (w - x2) (h - y2) (by unfold sB; omega)
    have m2 := sU w y2 x1 (by unfold sB; omega) (by omega) (by omega)
    have m3 := sL (w - x1) y2 y1 (by unfold sB; omega) (by omega) (by omega)
    have m4 := sU (w - x1) (y2 - y1) (x2 - x1) (by unfold sB; omega) (by omega) (by omega)
    have z4 := z (w - x1 - (x2 - x1)) (y2 - y1) (by unfold sB; omega)
    omega
  · have q0 := zero_n hn G (w' := w - x1) (h' := y1) (by unfold sB; omega) (Or.inr hx)
    have q1 := hU x2 (by omega) (by omega)
    unfold cU at q1
    have m1 := sL (w - x2) h y1 (by unfold sB; omega) (by omega) (by omega)
    have z1 := z (w - x2) y1 (by unfold sB; omega)
    have m2 := sL x2 h y2 (by unfold sB; omega) (by omega) (by omega)
    have m3 := sU x2 y2 x1 (by unfold sB; omega) (by omega) (by omega)
    have m4 := sL (x2 - x1) y2 y1 (by unfold sB; omega) (by omega) (by omega)
    have z4 := z (x2 - x1) y1 (by unfold sB; omega)
    omega
  · have q0 := zero_n hn G (w' := x2) (h' := h - y2) (by unfold sB; omega) (Or.inr hx)
    have q1 := hU x1 (by omega) (by omega)
    unfold cU at q1
    have m1 := sL x1 h y2 (by unfold sB; omega) (by omega) (by omega)
    have z1 := z x1 (h - y2) (by unfold sB; omega)
    have m2 := sL (w - x1) h y1 (by unfold sB; omega) (by omega) (by omega)
    have m3 := sU (w - x1) (h - y1) (x2 - x1) (by unfold sB; omega) (by omega) (by omega)
    rw [show w - x1 - (x2 - x1) = w - x2 by omega] at m3
    have m4 := sL (x2 - x1) (h - y1) (y2 - y1) (by unfold sB; omega) (by omega) (by omega)
    have z4 := z (x2 - x1) (h - y1 - (y2 - y1)) (by unfold sB; omega)
    omega
theorem aP {a b v w h x1 x2 y1 y2 : Int} {M : Int → Int → Int} (ha : 1 ≤ a) (hb : 1 ≤ b) (G : gB a b M w h) (hp : w * h < (v + 1) * a * b) (hv : vN 1 w h x1 x2 y1 y2) : cP M w h x1 x2 y1 y2 ≤ v := by
  have h1 := cP_area (area_G ha hb G) hv
  rcases Int.lt_or_le v (cP M w h x1 x2 y1 y2) with q | q
  · have h2 := Int.mul_le_mul_of_nonneg_right (show v + 1 ≤ cP M w h x1 x2 y1 y2 by omega) (show 0 ≤ a * b by have := ab_1 ha hb; omega)
    rw [Int.mul_assoc] at hp
    omega
  · exact q
def isW (M : Int → Int → Int) (n w h v : Int) : Prop := (∀ x1 x2 y1 y2, vN n w h x1 x2 y1 y2 → cP M w h x1 x2 y1 y2 ≤ v) ∧ (v = 0 ∨ ∃ x1 x2 y1 y2, vN n w h x1 x2 y1 y2 ∧ v = cP M w h x1 x2 y1 y2)
/-- all but the pinwheels -/
def isS (a b : Int) (M : Int → Int → Int) (w h v : Int) : Prop :=
  (bs a b w h ≤ v ∧ (∀ k, 1 ≤ k → k < w → cU M w h k ≤ v) ∧ ∀ k, 1 ≤ k → k < h → cL M w h k ≤ v) ∧
  (v = bs a b w h ∨ (∃ k, 1 ≤ k ∧ k < w ∧ v = cU M w h k) ∨ ∃ k, 1 ≤ k ∧ k < h ∧ v = cL M w h k)
theorem isB_prune {a b v w h : Int} {M : Int → Int → Int} (ha : 1 ≤ a) (hb : 1 ≤ b) (G : gB a b M w h) (hp : w * h < (v + 1) * a * b) (H : isS a b M w h v) : isB a b M w h v := by
  refine ⟨⟨H.1.1, H.1.2.1, H.1.2.2, fun x1 x2 y1 y2 hv => aP ha hb G hp hv⟩, ?_⟩
  rcases H.2 with d | d | d
  · exact Or.inl d
  · exact Or.inr (Or.inl d)
  · exact Or.inr (Or.inr (Or.inl d))
theorem isB_max {a b n v1 v2 w h : Int} {M : Int → Int → Int} (hn : n ≤ a ∧ n ≤ b) (hn1 : 1 ≤ n) (G : gB a b M w h) (H : isS a b M w h v1) (K : isW M n w h v2) : isB a b M w h (max v1 v2) := by
  have hb := bs_01 a b w h
  refine ⟨⟨by have := H.1.1; omega, fun k k1 k2 => by have := H.1.2.1 k k1 k2; omega, fun k k1 k2 => by have := H.1.2.2 k k1 k2; omega, fun x1 x2 y1 y2 hv => ?_⟩, ?_⟩
  · by_cases q : vN n w h x1 x2 y1 y2
    · have := K.1 _ _ _ _ q; omega
    · have := xP hn G H.1.2.1 H.1.2.2 hv q; omega
  · rcases Int.lt_or_le v1 v2 with q | q
    · rw [show max v1 v2 = v2 by omega]
      rcases K.2 with d | ⟨x1, x2, y1, y2, hv, d⟩
      · have := H.1.1; omega
      · exact Or.inr (Or.inr (Or.inr ⟨x1, x2, y1, y2, by unfold vN at *; omega, d⟩))
    · rw [show max v1 v2 = v1 by omega]
      rcases H.2 with d | d | d
      · exact Or.inl d
      · exact Or.inr (Or.inl d)
      · exact Or.inr (Or.inr (Or.inl d))
/-- what all pinwheels ahead of a place of the fourfold loop show -/
def aK (n w h K : Int) (φ : Int → Int → Int → Int → Prop) : Prop := ∀ x1 x2 y1 y2, vN n w h x1 x2 y1 y2 → 4096 * x1 + 256 * x2 + 16 * y1 + y2 < K → φ x1 x2 y1 y2
theorem aK_0 {n w h : Int} {φ : Int → Int → Int → Int → Prop} (hn : 1 ≤ n) (hw : w ≤ 12) (hh : h ≤ 12) : aK n w h (4096 * n) φ := fun x1 x2 y1 y2 hv hk => by unfold vN at hv; omega
theorem aK_m {n w h K K' : Int} {φ ψ : Int → Int → Int → Int → Prop} (H : aK n w h K φ) (hm : ∀ x1 x2 y1 y2, vN n w h x1 x2 y1 y2 → 4096 * x1 + 256 * x2 + 16 * y1 + y2 < K' → 4096 * x1 + 256 * x2 + 16 * y1 + y2 < K) (hi : ∀ x1 x2 y1 y2, φ x1 x2 y1 y2 → ψ x1 x2 y1 y2) : aK n w h K' ψ := fun x1 x2 y1 y2 hv hk => hi _ _ _ _ (H _ _ _ _ hv (hm _ _ _ _ hv hk))
theorem aK_x2 {n w h x1 : Int} {φ : Int → Int → Int → Int → Prop} (hn : 1 ≤ n) (hw : w ≤ 12) (hh : h ≤ 12) (H : aK n w h (4096 * x1) φ) : aK n w h (4096 * x1 + 256 * (x1 + 1)) φ := aK_m H (fun a b c d hv hk => by unfold vN at hv; omega) (fun _ _ _ _ q => q)
theorem aK_y1 {n w h x1 x2 : Int} {φ : Int → Int → Int → Int → Prop} (hn : 1 ≤ n) (hw : w ≤ 12) (hh : h ≤ 12) (H : aK n w h (4096 * x1 + 256 * x2) φ) : aK n w h (4096 * x1 + 256 * x2 + 16 * n) φ := aK_m H (fun a b c d hv hk => by unfold vN at hv; rcases Int.lt_trichotomy (16 * a + b) (16 * x1 + x2) with q | q | q <;> omega) (fun _ _ _ _ q => q)
theorem aK_y2 {n w h x1 x2 y1 : Int} {φ : Int → Int → Int → Int → Prop} (hn : 1 ≤ n) (hw : w ≤ 12) (hh : h ≤ 12) (hy : 0 ≤ y1 ∧ y1 ≤ 12) (H : aK n w h (4096 * x1 + 256 * x2 + 16 * y1) φ) : aK n w h (4096 * x1 + 256 * x2 + 16 * y1 + (y1 + 1)) φ := aK_m H (fun a b c d hv hk => by unfold vN at hv; rcases Int.lt_trichotomy (256 * a + 16 * b + c) (256 * x1 + 16 * x2 + y1) with q | q | q <;> omega) (fun _ _ _ _ q => q)
theorem aK_e4 {n w h x1 x2 y1 y2 : Int} {φ : Int → Int → Int → Int → Prop} (hn : 1 ≤ n) (hw : w ≤ 12) (hh : h ≤ 12) (hy : h - n < y2) (H : aK n w h (4096 * x1 + 256 * x2 + 16 * y1 + y2) φ) : aK n w h (4096 * x1 + 256 * x2 + 16 * (y1 + 1)) φ := aK_m H (fun a b c d hv hk => by unfold vN at hv; omega) (fun _ _ _ _ q => q)
theorem aK_e3 {n w h x1 x2 y1 : Int} {φ : Int → Int → Int → Int → Prop} (hn : 1 ≤ n) (hw : w ≤ 12) (hh : h ≤ 12) (hy : h - n ≤ y1) (H : aK n w h (4096 * x1 + 256 * x2 + 16 * y1) φ) : aK n w h (4096 * x1 + 256 * (x2 + 1)) φ := aK_m H (fun a b c d hv hk => by unfold vN at hv; omega) (fun _ _ _ _ q => q)
theorem aK_e2 {n w h x1 x2 : Int} {φ : Int → Int → Int → Int → Prop} (hn : 1 ≤ n) (hw : w ≤ 12) (hh : h ≤ 12) (hy : w - n < x2) (H : aK n w h (4096 * x1 + 256 * x2) φ) : aK n w h (4096 * (x1 + 1)) φ := aK_m H (fun a b c d hv hk => by unfold vN at hv; omega) (fun _ _ _ _ q => q)
theorem aK_e1 {n w h x1 : Int} {φ : Int → Int → Int → Int → Prop} (hn : 1 ≤ n) (hw : w ≤ 12) (hh : h ≤ 12) (hy : w - n ≤ x1) (H : aK n w h (4096 * x1) φ) {x2 x3 y1 y2 : Int} (hv : vN n w h x2 x3 y1 y2) : φ x2 x3 y1 y2 := H _ _ _ _ hv (by unfold vN at hv; omega)
theorem aK_s {n w h x1 x2 y1 y2 : Int} {φ ψ : Int → Int → Int → Int → Prop} (hn : 1 ≤ n) (hw : w ≤ 12) (hh : h ≤ 12) (hb : 0 ≤ x1 ∧ x1 ≤ 12 ∧ 0 ≤ x2 ∧ x2 ≤ 12 ∧ 0 ≤ y1 ∧ y1 ≤ 12 ∧ 0 ≤ y2 ∧ y2 ≤ 12) (H : aK n w h (4096 * x1 + 256 * x2 + 16 * y1 + y2) φ) (hi : ∀ a b c d, φ a b c d → ψ a b c d) (h0 : ψ x1 x2 y1 y2) : aK n w h (4096 * x1 + 256 * x2 + 16 * y1 + (y2 + 1)) ψ := fun a b c d hv hk => by
  by_cases q : a = x1 ∧ b = x2 ∧ c = y1 ∧ d = y2
  · obtain ⟨rfl, rfl, rfl, rfl⟩ := q
    exact h0
  · exact hi _ _ _ _ (H _ _ _ _ hv (by unfold vN at hv; omega))
def wI (M : Int → Int → Int) (n w h K v : Int) : Prop := aK n w h K (fun x1 x2 y1 y2 => cP M w h x1 x2 y1 y2 ≤ v) ∧ (v = 0 ∨ ∃ x1 x2 y1 y2, vN n w h x1 x2 y1 y2 ∧ v = cP M w h x1 x2 y1 y2)
theorem wI_s {M : Int → Int → Int} {n w h v x1 x2 y1 y2 : Int} (hn : 1 ≤ n) (hw : w ≤ 12) (hh : h ≤ 12) (hv : vN n w h x1 x2 y1 y2) (H : wI M n w h (4096 * x1 + 256 * x2 + 16 * y1 + y2) v) : wI M n w h (4096 * x1 + 256 * x2 + 16 * y1 + (y2 + 1)) (max v (cP M w h x1 x2 y1 y2)) := by
  refine ⟨aK_s hn hw hh (by unfold vN at hv; omega) H.1 (fun a b c d q => by omega) (by omega), ?_⟩
  rcases Int.lt_or_le v (cP M w h x1 x2 y1 y2) with q | q
  · exact Or.inr ⟨x1, x2, y1, y2, hv, by omega⟩
  · rw [show max v (cP M w h x1 x2 y1 y2) = v by omega]; exact H.2
/-- a running max of cuts: those ahead of k -/
def kI (b : Int) (c : Int → Int) (k v : Int) : Prop := b ≤ v ∧ (∀ j, 1 ≤ j → j < k → c j ≤ v) ∧ (v = b ∨ ∃ j, 1 ≤ j ∧ j < k ∧ v = c j)
theorem kI_1 (b : Int) (c : Int → Int) : kI b c 1 b := ⟨Int.le_refl _, fun j h1 h2 => by omega, Or.inl rfl⟩
theorem kI_s {b : Int} {c : Int → Int} {k v : Int} (hk : 1 ≤ k) (H : kI b c k v) : kI b c (k + 1) (max v (c k)) := by
  obtain ⟨h1, h2, h3⟩ := H
  refine ⟨by omega, fun j j1 j2 => ?_, ?_⟩
  · by_cases e : j = k
    · rw [e]; omega
    · have := h2 j j1 (by omega); omega
  · rcases Int.lt_or_le v (c k) with q | q
    · exact Or.inr ⟨k, hk, by omega, by omega⟩
    · rw [show max v (c k) = v by omega]
      rcases h3 with h3 | ⟨j, j1, j2, j3⟩
      · exact Or.inl h3
      · exact Or.inr ⟨j, j1, by omega, j3⟩
theorem kI_S {a b : Int} {M : Int → Int → Int} {w h k k' v v' : Int} (hk : k = w) (hk' : k' = h) (H : kI (bs a b w h) (cU M w h) k v) (K : kI v (cL M w h) k' v') : isS a b M w h v' := by
  subst hk hk'
  obtain ⟨h1, h2, h3⟩ := H
  obtain ⟨g1, g2, g3⟩ := K
  refine ⟨⟨by omega, fun j j1 j2 => by have := h2 j j1 j2; omega, fun j j1 j2 => g2 j j1 j2⟩, ?_⟩
  rcases g3 with g3 | ⟨j, j1, j2, j3⟩
  · rcases h3 with h3 | ⟨j, j1, j2, j3⟩
    · exact Or.inl (by omega)
    · exact Or.inr (Or.inl ⟨j, j1, j2, by omega⟩)
  · exact Or.inr (Or.inr ⟨j, j1, j2, j3⟩)
/-- the table as far as (w, h) -/
def pT (a b : Int) (M : Int → Int → Int) (X Y w h : Int) : Prop := ∀ w' h', 1 ≤ w' → w' ≤ X → 1 ≤ h' → h' ≤ Y → (w' < w ∨ w' = w ∧ h' < h) → isB a b M w' h' (M w' h')
theorem pT_g {a b : Int} {M : Int → Int → Int} {X Y w h : Int} (H : pT a b M X Y w h) (hw : w ≤ X) (hh : h ≤ Y) : gB a b M w h := fun w' h' hs => by
  unfold sB at hs
  exact H w' h' (by omega) (by omega) (by omega) (by omega) (by omega)
theorem pT_s {a b : Int} {f : Int → Int} {X Y w h v i : Int} (hi : i = 13 * w + h) (H : pT a b (tb f) X Y w h) (hX : X ≤ 12) (hY : Y ≤ 12) (hw : 1 ≤ w) (hh : 1 ≤ h) (hv : isB a b (tb f) w h v) : pT a b (tb (up f i v)) X Y w (h + 1) := fun w' h' a1 a2 b1 b2 c => by
  subst hi
  have e : ∀ w1 h1, sB w' h' w1 h1 → tb f w1 h1 = tb (up f (13 * w + h) v) w1 h1 := fun w1 h1 hs => by
    unfold sB at hs
    exact (up_n f v (by omega)).symm
  by_cases q : w' = w ∧ h' = h
  · obtain ⟨rfl, rfl⟩ := q
    have e2 : tb (up f (13 * w' + h') v) w' h' = v := up_s _ _ _
    rw [e2]
    exact isB_c e a1 b1 hv
  · have e2 : tb (up f (13 * w + h) v) w' h' = tb f w' h' := up_n f v (by omega)
    rw [e2]
    exact isB_c e a1 b1 (H w' h' a1 a2 b1 b2 (by omega))
theorem pT_0 {a b : Int} {M : Int → Int → Int} {X Y : Int} : pT a b M X Y 1 1 := fun w' h' a1 a2 b1 b2 c => by omega
theorem pT_r {a b : Int} {M : Int → Int → Int} {X Y w h : Int} (hh : Y < h) (H : pT a b M X Y w h) : pT a b M X Y (w + 1) 1 := fun w' h' a1 a2 b1 b2 c => H w' h' a1 a2 b1 b2 (by omega)
theorem pT_T {a b : Int} {M : Int → Int → Int} {X Y w : Int} (hw : X < w) (H : pT a b M X Y w 1) : gT a b M X Y := fun w' h' a1 a2 b1 b2 => H w' h' a1 a2 b1 b2 (by omega)
theorem gT_g {a b : Int} {M : Int → Int → Int} {X Y w h : Int} (H : gT a b M X Y) (hw : w ≤ X) (hh : h ≤ Y) : gB a b M w h := fun w' h' hs => by
  unfold sB at hs
  exact H w' h' (by omega) (by omega) (by omega) (by omega)

def q4 (f : Int → Int) (i : Int) : Qd := (f (4 * i), f (4 * i + 1), f (4 * i + 2), f (4 * i + 3))
def rep (f : Int → Int) : Int → List Qd → Prop
  | n, [] => n = 0
  | n, q :: L => 1 ≤ n ∧ q4 f (n - 1) = q ∧ rep f (n - 1) L
theorem rep_len {f : Int → Int} : ∀ {n : Int} {L : List Qd}, rep f n L → n = (L.length : Int)
  | n, [], h => h
  | n, q :: L, h => by
    have := rep_len h.2.2
    rw [List.length_cons]
    omega
theorem rep_c {f g : Int → Int} : ∀ {n : Int} {L : List Qd}, (∀ i, i < 4 * n → f i = g i) → rep f n L → rep g n L
  | n, [], _, h => h
  | n, q :: L, e, h => by
    refine ⟨h.1, ?_, rep_c (fun i hi => e i (by omega)) h.2.2⟩
    rw [← h.2.1]
    unfold q4
    rw [e (4 * (n - 1)) (by omega), e (4 * (n - 1) + 1) (by omega), e (4 * (n - 1) + 2) (by omega), e (4 * (n - 1) + 3) (by omega)]
theorem rep_push {f : Int → Int} {n : Int} {L : List Qd} (h : rep f n L) (x y w v : Int) : rep (up (up (up (up f (4 * n) x) (4 * n + 1) y) (4 * n + 2) w) (4 * n + 3) v) (n + 1) ((x, y, w, v) :: L) := by
  have hn := rep_len h
  refine ⟨by omega, ?_, ?_⟩
  · rw [show n + 1 - 1 = n by omega]
    unfold q4
    rw [up_s, up_n _ _ (by omega), up_n _ _ (by omega), up_n _ _ (by omega), up_s, up_n _ _ (by omega), up_n _ _ (by omega), up_s, up_n _ _ (by omega), up_s]
  · rw [show n + 1 - 1 = n by omega]
    exact rep_c (fun i hi => by rw [up_n _ _ (by omega), up_n _ _ (by omega), up_n _ _ (by omega), up_n _ _ (by omega)]) h
theorem rep_pop {f : Int → Int} {n : Int} {L : List Qd} (h : rep f n L) (hn : 1 ≤ n) : ∃ R, L = q4 f (n - 1) :: R ∧ rep f (n - 1) R := by
  cases L with
  | nil => exact absurd h (by show ¬ n = 0; omega)
  | cons q R => exact ⟨R, by rw [h.2.1], h.2.2⟩
theorem rep_0 {f : Int → Int} {L : List Qd} (h : rep f 0 L) : L = [] := by
  have := rep_len h
  exact List.eq_nil_of_length_eq_zero (by omega)
theorem rep_at {f : Int → Int} : ∀ {n : Int} {L : List Qd}, rep f n L → ∀ q ∈ L, ∃ i, 0 ≤ i ∧ i < n ∧ q = q4 f i
  | n, [], _, q, hq => absurd hq List.not_mem_nil
  | n, p :: L, h, q, hq => by
    have hl := rep_len h.2.2
    rcases List.mem_cons.mp hq with e | e
    · exact ⟨n - 1, by omega, by omega, by rw [e]; exact h.2.1.symm⟩
    · obtain ⟨i, i1, i2, i3⟩ := rep_at h.2.2 q e
      exact ⟨i, i1, by omega, i3⟩
theorem rep_in {f : Int → Int} : ∀ {n : Int} {L : List Qd}, rep f n L → ∀ i, 0 ≤ i → i < n → q4 f i ∈ L
  | n, [], h, i, i0, i1 => by
    have : n = 0 := h
    omega
  | n, p :: L, h, i, i0, i1 => by
    by_cases e : i = n - 1
    · rw [e, h.2.1]; exact List.mem_cons_self
    · exact List.mem_cons_of_mem _ (rep_in h.2.2 i i0 (by omega))
theorem rep_eq {f g : Int → Int} : ∀ {n : Int} {L : List Qd}, rep f n L → rep g n L → ∀ i, 0 ≤ i → i < n → q4 f i = q4 g i
  | n, [], h, _, i, i0, i1 => by
    have : n = 0 := h
    omega
  | n, p :: L, h, k, i, i0, i1 => by
    by_cases e : i = n - 1
    · rw [e, h.2.1, k.2.1]
    · exact rep_eq h.2.2 k.2.2 i i0 (by omega)
def sumL (φ : Qd → Int) : List Qd → Int
  | [] => 0
  | q :: L => φ q + sumL φ L
theorem sumL_app (φ : Qd → Int) : ∀ A B : List Qd, sumL φ (A ++ B) = sumL φ A + sumL φ B
  | [], B => by show sumL φ B = 0 + sumL φ B; omega
  | q :: A, B => by
    have := sumL_app φ A B
    show φ q + sumL φ (A ++ B) = φ q + sumL φ A + sumL φ B
    omega
def nU (M : Int → Int → Int) (w h : Int) : Prop := ∀ j, 1 ≤ j → j < w → cU M w h j ≠ M w h
def nL (M : Int → Int → Int) (w h : Int) : Prop := ∀ j, 1 ≤ j → j < h → cL M w h j ≠ M w h
def pw (x y w h x1 x2 y1 y2 : Int) : List Qd := [(x, y, x1, y2), (x + x1, y, w - x1, y1), (x + x2, y + y1, w - x2, h - y1), (x, y + y2, x2, h - y2), (x + x1, y + y1, x2 - x1, y2 - y1)]
def cutR (M : Int → Int → Int) (x y w h : Int) (C : List Qd) : Prop :=
  (∃ k, 1 ≤ k ∧ k < w ∧ cU M w h k = M w h ∧ (∀ j, 1 ≤ j → j < k → cU M w h j ≠ M w h) ∧ C = [(x, y, k, h), (x + k, y, w - k, h)]) ∨
  (nU M w h ∧ ∃ k, 1 ≤ k ∧ k < h ∧ cL M w h k = M w h ∧ (∀ j, 1 ≤ j → j < k → cL M w h j ≠ M w h) ∧ C = [(x, y, w, k), (x, y + k, w, h - k)]) ∨
  (nU M w h ∧ nL M w h ∧ ∃ x1 x2 y1 y2, vN 1 w h x1 x2 y1 y2 ∧ cP M w h x1 x2 y1 y2 = M w h ∧ aK 1 w h (4096 * x1 + 256 * x2 + 16 * y1 + y2) (fun a b c d => cP M w h a b c d ≠ M w h) ∧ C = pw x y w h x1 x2 y1 y2)
theorem cutR_u {M : Int → Int → Int} {x y w h : Int} {C D : List Qd} (hw : w ≤ 12) (hh : h ≤ 12) (H : cutR M x y w h C) (K : cutR M x y w h D) : C = D := by
  rcases H with ⟨k, k1, k2, k3, k4, k5⟩ | ⟨n1, k, k1, k2, k3, k4, k5⟩ | ⟨n1, n2, x1, x2, y1, y2, hv, k3, k4, k5⟩
  · rcases K with ⟨j, j1, j2, j3, j4, j5⟩ | ⟨m1, -⟩ | ⟨m1, -⟩
    · have : k = j := by
        rcases Int.lt_trichotomy k j with q | q | q
        · exact absurd k3 (j4 k k1 q)
        · exact q
        · exact absurd j3 (k4 j j1 q)
      rw [k5, j5, this]
    · exact absurd k3 (m1 k k1 k2)
    · exact absurd k3 (m1 k k1 k2)
  · rcases K with ⟨j, j1, j2, j3, j4, j5⟩ | ⟨m1, j, j1, j2, j3, j4, j5⟩ | ⟨m1, m2, -⟩
    · exact absurd j3 (n1 j j1 j2)
    · have : k = j := by
        rcases Int.lt_trichotomy k j with q | q | q
        · exact absurd k3 (j4 k k1 q)
        · exact q
        · exact absurd j3 (k4 j j1 q)
      rw [k5, j5, this]
    · exact absurd k3 (m2 k k1 k2)
  · rcases K with ⟨j, j1, j2, j3, j4, j5⟩ | ⟨m1, j, j1, j2, j3, j4, j5⟩ | ⟨m1, m2, z1, z2, u1, u2, hv', j3, j4, j5⟩
    · exact absurd j3 (n1 j j1 j2)
    · exact absurd j3 (n2 j j1 j2)
    · rcases Int.lt_trichotomy (4096 * x1 + 256 * x2 + 16 * y1 + y2) (4096 * z1 + 256 * z2 + 16 * u1 + u2) with q | q | q
      · exact absurd k3 (j4 _ _ _ _ hv q)
      · unfold vN at hv hv'
        have e1 : x1 = z1 := by omega
        have e2 : x2 = z2 := by omega
        have e3 : y1 = u1 := by omega
        have e4 : y2 = u2 := by omega
        rw [k5, j5, e1, e2, e3, e4]
      · exact absurd j3 (k4 _ _ _ _ hv' q)
def stp (a b : Int) (M : Int → Int → Int) (L P L' P' : List Qd) : Prop := ∃ x y w h R, L = (x, y, w, h) :: R ∧
  ((M w h = 1 ∧ L' = R ∧ P' = (x, y, (if a ≤ w ∧ b ≤ h then a else b), (if a ≤ w ∧ b ≤ h then b else a)) :: P) ∨ (1 < M w h ∧ P' = P ∧ ∃ C, cutR M x y w h C ∧ L' = C ++ R) ∨ (M w h < 1 ∧ L' = R ∧ P' = P))
def runN (a b : Int) (M : Int → Int → Int) : Nat → List Qd → List Qd → List Qd → List Qd → Prop
  | 0, L, P, L', P' => L' = L ∧ P' = P
  | n + 1, L, P, L', P' => ∃ L1 P1, runN a b M n L P L1 P1 ∧ stp a b M L1 P1 L' P'
def okQ (X Y : Int) (q : Qd) : Prop := 0 ≤ q.1 ∧ 0 ≤ q.2.1 ∧ 1 ≤ q.2.2.1 ∧ 1 ≤ q.2.2.2 ∧ q.1 + q.2.2.1 ≤ X ∧ q.2.1 + q.2.2.2 ≤ Y
def ar (q : Qd) : Int := q.2.2.1 * q.2.2.2
def mq (M : Int → Int → Int) (q : Qd) : Int := M q.2.2.1 q.2.2.2
def cvr (q : Qd) (s t : Int) : Prop := q.1 ≤ s ∧ s < q.1 + q.2.2.1 ∧ q.2.1 ≤ t ∧ t < q.2.1 + q.2.2.2
def cov (s t : Int) (q : Qd) : Int := bI (q.1 ≤ s ∧ s < q.1 + q.2.2.1 ∧ q.2.1 ≤ t ∧ t < q.2.1 + q.2.2.2)
theorem cov_1 {s t : Int} {q : Qd} (h : cvr q s t) : cov s t q = 1 := if_pos h
theorem cov_0 {s t : Int} {q : Qd} (h : ¬ cvr q s t) : cov s t q = 0 := if_neg h
theorem cov_le {s t : Int} {p q : Qd} (h : cvr p s t → cvr q s t) : cov s t p ≤ cov s t q := by
  by_cases e : cvr p s t
  · rw [cov_1 e, cov_1 (h e)]; omega
  · rw [cov_0 e]; have := bI_01 (q.1 ≤ s ∧ s < q.1 + q.2.2.1 ∧ q.2.1 ≤ t ∧ t < q.2.1 + q.2.2.2); unfold cov; omega
theorem cov_b (s t : Int) (q : Qd) : 0 ≤ cov s t q ∧ cov s t q ≤ 1 := by
  have := bI_01 (q.1 ≤ s ∧ s < q.1 + q.2.2.1 ∧ q.2.1 ≤ t ∧ t < q.2.1 + q.2.2.2)
  unfold cov; omega
theorem cov2 {s t : Int} {p1 p2 q : Qd} (h1 : cvr p1 s t → cvr q s t) (h2 : cvr p2 s t → cvr q s t) (d : cvr p1 s t → ¬ cvr p2 s t) : cov s t p1 + cov s t p2 ≤ cov s t q := by
  by_cases e : cvr p1 s t
  · rw [cov_1 e, cov_0 (d e), cov_1 (h1 e)]; omega
  · rw [cov_0 e]; have := cov_le h2; omega
theorem cut_ok {M : Int → Int → Int} {X Y x y w h : Int} {C : List Qd} (H : cutR M x y w h C) (hq : okQ X Y (x, y, w, h)) : (∀ q ∈ C, okQ X Y q) ∧ sumL ar C = w * h ∧ 2 ≤ C.length ∧ sumL (mq M) C = M w h ∧ ∀ s t, sumL (cov s t) C ≤ cov s t (x, y, w, h) := by
  unfold okQ at hq
  simp only at hq
  rcases H with ⟨k, k1, k2, k3, k4, rfl⟩ | ⟨n1, k, k1, k2, k3, k4, rfl⟩ | ⟨n1, n2, x1, x2, y1, y2, hv, k3, k4, rfl⟩
  · refine ⟨?_, ?_, by show 2 ≤ 2; omega, ?_, fun s t => ?_⟩
    · intro q hm
      rcases List.mem_cons.mp hm with rfl | hm
      · unfold okQ; simp only; omega
      · rcases List.mem_cons.mp hm with rfl | hm
        · unfold okQ; simp only; omega
        · exact absurd hm List.not_mem_nil
    · show k * h + ((w - k) * h + 0) = w * h
      rw [Int.sub_mul]; omega
    · show M k h + (M (w - k) h + 0) = M w h
      unfold cU at k3; omega
    · show cov s t _ + (cov s t _ + 0) ≤ _
      rw [Int.add_zero]
      exact cov2 (by unfold cvr; simp only; omega) (by unfold cvr; simp only; omega) (by unfold cvr; simp only; omega)
  · refine ⟨?_, ?_, by show 2 ≤ 2; omega, ?_, fun s t => ?_⟩
    · intro q hm
      rcases List.mem_cons.mp hm with rfl | hm
      · unfold okQ; simp only; omega
      · rcases List.mem_cons.mp hm with rfl | hm
        · unfold okQ; simp only; omega
        · exact absurd hm List.not_mem_nil
    · show w * k + (w * (h - k) + 0) = w * h
      rw [Int.mul_sub]; omega
    · show M w k + (M w (h - k) + 0) = M w h
      unfold cL at k3; omega
    · show cov s t _ + (cov s t _ + 0) ≤ _
      rw [Int.add_zero]
      exact cov2 (by unfold cvr; simp only; omega) (by unfold cvr; simp only; omega) (by unfold cvr; simp only; omega)
  · unfold vN at hv
    refine ⟨?_, ?_, by show 2 ≤ 5; omega, ?_, fun s t => ?_⟩
    · intro q hm
      unfold pw at hm
      rcases List.mem_cons.mp hm with rfl | hm
      · unfold okQ; simp only; omega
      rcases List.mem_cons.mp hm with rfl | hm
      · unfold okQ; simp only; omega
      rcases List.mem_cons.mp hm with rfl | hm
      · unfold okQ; simp only; omega
      rcases List.mem_cons.mp hm with rfl | hm
      · unfold okQ; simp only; omega
      rcases List.mem_cons.mp hm with rfl | hm
      · unfold okQ; simp only; omega
      · exact absurd hm List.not_mem_nil
    · show x1 * y2 + ((w - x1) * y1 + ((w - x2) * (h - y1) + (x2 * (h - y2) + ((x2 - x1) * (y2 - y1) + 0)))) = w * h
      simp only [Int.sub_mul, Int.mul_sub]
      omega
    · show M x1 y2 + (M (w - x1) y1 + (M (w - x2) (h - y1) + (M x2 (h - y2) + (M (x2 - x1) (y2 - y1) + 0)))) = M w h
      unfold cP at k3; omega
    · show cov s t (x, y, x1, y2) + (cov s t (x + x1, y, w - x1, y1) + (cov s t (x + x2, y + y1, w - x2, h - y1) + (cov s t (x, y + y2, x2, h - y2) + (cov s t (x + x1, y + y1, x2 - x1, y2 - y1) + 0)))) ≤ cov s t (x, y, w, h)
      have g1 : cov s t (x, y, x1, y2) + cov s t (x, y + y2, x2, h - y2) ≤ bI ((x ≤ s ∧ s < x + x1 ∧ y ≤ t ∧ t < y + y2) ∨ (x ≤ s ∧ s < x + x2 ∧ y + y2 ≤ t ∧ t < y + h)) := by
        by_cases e : cvr (x, y, x1, y2) s t
        · have e2 : ¬ cvr (x, y + y2, x2, h - y2) s t := by unfold cvr at *; simp only at *; omega
          rw [cov_1 e, cov_0 e2]; unfold cvr at e; simp only at e; unfold bI; rw [if_pos (by omega)]; omega
        · by_cases e2 : cvr (x, y + y2, x2, h - y2) s t
          · rw [cov_0 e, cov_1 e2]; unfold cvr at e2; simp only at e2; unfold bI; rw [if_pos (by omega)]; omega
          · rw [cov_0 e, cov_0 e2]; have := bI_01 ((x ≤ s ∧ s < x + x1 ∧ y ≤ t ∧ t < y + y2) ∨ (x ≤ s ∧ s < x + x2 ∧ y + y2 ≤ t ∧ t < y + h)); omega
      have g2 : cov s t (x + x1, y, w - x1, y1) + cov s t (x + x2, y + y1, w - x2, h - y1) ≤ bI ((x + x1 ≤ s ∧ s < x + w ∧ y ≤ t ∧ t < y + y1) ∨ (x + x2 ≤ s ∧ s < x + w ∧ y + y1 ≤ t ∧ t < y + h)) := by
        by_cases e : cvr (x + x1, y, w - x1, y1) s t
        · have e2 : ¬ cvr (x + x2, y + y1, w - x2, h - y1) s t := by unfold cvr at *; simp only at *; omega
          rw [cov_1 e, cov_0 e2]; unfold cvr at e; simp only at e; unfold bI; rw [if_pos (by omega)]; omega
        · by_cases e2 : cvr (x + x2, y + y1, w - x2, h - y1) s t
          · rw [cov_0 e, cov_1 e2]; unfold cvr at e2; simp only at e2; unfold bI; rw [if_pos (by omega)]; omega
          · rw [cov_0 e, cov_0 e2]; have := bI_01 ((x + x1 ≤ s ∧ s < x + w ∧ y ≤ t ∧ t < y + y1) ∨ (x + x2 ≤ s ∧ s < x + w ∧ y + y1 ≤ t ∧ t < y + h)); omega
      have g3 : bI ((x ≤ s ∧ s < x + x1 ∧ y ≤ t ∧ t < y + y2) ∨ (x ≤ s ∧ s < x + x2 ∧ y + y2 ≤ t ∧ t < y + h)) + bI ((x + x1 ≤ s ∧ s < x + w ∧ y ≤ t ∧ t < y + y1) ∨ (x + x2 ≤ s ∧ s < x + w ∧ y + y1 ≤ t ∧ t < y + h)) + cov s t (x + x1, y + y1, x2 - x1, y2 - y1) ≤ cov s t (x, y, w, h) := by
        by_cases e : cvr (x, y, w, h) s t
        · rw [cov_1 e]
          unfold cvr at e; simp only at e
          by_cases c1 : (x ≤ s ∧ s < x + x1 ∧ y ≤ t ∧ t < y + y2) ∨ (x ≤ s ∧ s < x + x2 ∧ y + y2 ≤ t ∧ t < y + h)
          · have c2 : ¬ ((x + x1 ≤ s ∧ s < x + w ∧ y ≤ t ∧ t < y + y1) ∨ (x + x2 ≤ s ∧ s < x + w ∧ y + y1 ≤ t ∧ t < y + h)) := by omega
            have c3 : ¬ cvr (x + x1, y + y1, x2 - x1, y2 - y1) s t := by unfold cvr; simp only; omega
            rw [cov_0 c3]; unfold bI; rw [if_pos c1, if_neg c2]; omega
          · by_cases c2 : (x + x1 ≤ s ∧ s < x + w ∧ y ≤ t ∧ t < y + y1) ∨ (x + x2 ≤ s ∧ s < x + w ∧ y + y1 ≤ t ∧ t < y + h)
            · have c3 : ¬ cvr (x + x1, y + y1, x2 - x1, y2 - y1) s t := by unfold cvr; simp only; omega
              rw [cov_0 c3]; unfold bI; rw [if_neg c1, if_pos c2]; omega
            · have := cov_b s t (x + x1, y + y1, x2 - x1, y2 - y1)
              unfold bI; rw [if_neg c1, if_neg c2]; omega
        · rw [cov_0 e]
          unfold cvr at e; simp only at e
          have c1 : ¬ ((x ≤ s ∧ s < x + x1 ∧ y ≤ t ∧ t < y + y2) ∨ (x ≤ s ∧ s < x + x2 ∧ y + y2 ≤ t ∧ t < y + h)) := by omega
          have c2 : ¬ ((x + x1 ≤ s ∧ s < x + w ∧ y ≤ t ∧ t < y + y1) ∨ (x + x2 ≤ s ∧ s < x + w ∧ y + y1 ≤ t ∧ t < y + h)) := by omega
          have c3 : ¬ cvr (x + x1, y + y1, x2 - x1, y2 - y1) s t := by unfold cvr; simp only; omega
          rw [cov_0 c3]; unfold bI; rw [if_neg c1, if_neg c2]; omega
      omega
theorem ar_1 {X Y : Int} {q : Qd} (h : okQ X Y q) : 1 ≤ ar q := by
  unfold okQ at h
  exact ab_1 h.2.2.1 h.2.2.2.1
theorem len_ar {X Y : Int} : ∀ {L : List Qd}, (∀ q ∈ L, okQ X Y q) → (L.length : Int) ≤ sumL ar L
  | [], _ => by show (0 : Int) ≤ 0; omega
  | q :: L, h => by
    have h1 := len_ar (L := L) (fun p hp => h p (List.mem_cons_of_mem _ hp))
    have h2 := ar_1 (h q List.mem_cons_self)
    show ((L.length + 1 : Nat) : Int) ≤ ar q + sumL ar L
    omega
def Iv (X Y : Int) (M : Int → Int → Int) (n : Int) (L P : List Qd) : Prop :=
  (∀ q ∈ L, okQ X Y q) ∧ (∀ q ∈ P, okQ X Y q) ∧ sumL ar L + P.length ≤ X * Y ∧ n + 2 * sumL ar L - L.length ≤ 2 * (X * Y) - 1 ∧ sumL (mq M) L + P.length = M X Y ∧ ∀ s t, sumL (cov s t) L + sumL (cov s t) P ≤ 1
theorem Iv_0 {X Y : Int} {M : Int → Int → Int} (hX : 1 ≤ X) (hY : 1 ≤ Y) : Iv X Y M 0 [(0, 0, X, Y)] [] := by
  refine ⟨?_, fun q hq => absurd hq List.not_mem_nil, ?_, ?_, ?_, fun s t => ?_⟩
  · intro q hq
    rcases List.mem_cons.mp hq with rfl | hq
    · unfold okQ; simp only; omega
    · exact absurd hq List.not_mem_nil
  · show X * Y + 0 + ((0 : Nat) : Int) ≤ X * Y; omega
  · show 0 + 2 * (X * Y + 0) - ((1 : Nat) : Int) ≤ 2 * (X * Y) - 1; omega
  · show M X Y + 0 + ((0 : Nat) : Int) = M X Y; omega
  · show cov s t (0, 0, X, Y) + 0 + 0 ≤ 1
    have := cov_b s t (0, 0, X, Y); omega
theorem Iv_s {X Y a b n : Int} {M : Int → Int → Int} {L P L' P' : List Qd} (hT : gT a b M X Y) (ha : 1 ≤ a) (hb : 1 ≤ b) (H : Iv X Y M n L P) (S : stp a b M L P L' P') : Iv X Y M (n + 1) L' P' := by
  obtain ⟨x, y, w, h, R, rfl, S⟩ := S
  obtain ⟨i1, i2, i3, i4, i5, i6⟩ := H
  have hq := i1 _ List.mem_cons_self
  have hR : ∀ q ∈ R, okQ X Y q := fun q z => i1 q (List.mem_cons_of_mem _ z)
  have h1 := ar_1 hq
  have a3 : ar (x, y, w, h) + sumL ar R + P.length ≤ X * Y := i3
  have a4 : n + 2 * (ar (x, y, w, h) + sumL ar R) - ((R.length + 1 : Nat) : Int) ≤ 2 * (X * Y) - 1 := i4
  have a5 : M w h + sumL (mq M) R + P.length = M X Y := i5
  have a6 : ∀ s t, cov s t (x, y, w, h) + sumL (cov s t) R + sumL (cov s t) P ≤ 1 := i6
  have hq' := hq
  unfold okQ at hq'
  simp only at hq'
  have hB := hT w h (by omega) (by omega) (by omega) (by omega)
  rcases S with ⟨s1, rfl, rfl⟩ | ⟨s1, rfl, C, s2, rfl⟩ | ⟨s1, rfl, rfl⟩
  · have hf := fit_T (w + h).toNat w h (by omega) (by omega) (by omega) (gT_g hT (by omega) (by omega)) hB (by omega)
    have hp : okQ X Y (x, y, (if a ≤ w ∧ b ≤ h then a else b), (if a ≤ w ∧ b ≤ h then b else a)) := by
      unfold okQ; simp only
      by_cases c : a ≤ w ∧ b ≤ h
      · rw [if_pos c, if_pos c]; omega
      · rw [if_neg c, if_neg c]; omega
    refine ⟨hR, ?_, ?_, ?_, ?_, fun s t => ?_⟩
    · intro q z
      rcases List.mem_cons.mp z with rfl | z
      · exact hp
      · exact i2 q z
    · show sumL ar L' + ((P.length + 1 : Nat) : Int) ≤ X * Y; omega
    · omega
    · show sumL (mq M) L' + ((P.length + 1 : Nat) : Int) = M X Y; omega
    · show sumL (cov s t) L' + (cov s t (x, y, (if a ≤ w ∧ b ≤ h then a else b), (if a ≤ w ∧ b ≤ h then b else a)) + sumL (cov s t) P) ≤ 1
      have g1 : cov s t (x, y, (if a ≤ w ∧ b ≤ h then a else b), (if a ≤ w ∧ b ≤ h then b else a)) ≤ cov s t (x, y, w, h) := by
        refine cov_le (fun z => ?_)
        unfold cvr at *
        simp only at *
        by_cases c : a ≤ w ∧ b ≤ h
        · rw [if_pos c, if_pos c] at z; omega
        · rw [if_neg c, if_neg c] at z; omega
      have := a6 s t
      omega
  · obtain ⟨c1, c2, c3, c4, c5⟩ := cut_ok s2 hq
    refine ⟨?_, i2, ?_, ?_, ?_, fun s t => ?_⟩
    · intro q z
      rcases List.mem_append.mp z with z | z
      · exact c1 q z
      · exact hR q z
    · rw [sumL_app, c2]; exact a3
    · rw [sumL_app, c2, List.length_append]
      have e : ar (x, y, w, h) = w * h := rfl
      omega
    · rw [sumL_app, c4]; exact a5
    · rw [sumL_app]
      have := a6 s t
      have := c5 s t
      omega
  · have h0 := isB_0 hB
    refine ⟨hR, i2, ?_, ?_, ?_, fun s t => ?_⟩
    · omega
    · omega
    · omega
    · have := a6 s t
      have := cov_b s t (x, y, w, h)
      omega
theorem Iv_r {X Y a b : Int} {M : Int → Int → Int} (hT : gT a b M X Y) (ha : 1 ≤ a) (hb : 1 ≤ b) (hX : 1 ≤ X) (hY : 1 ≤ Y) : ∀ (n : Nat) {L P : List Qd}, runN a b M n [(0, 0, X, Y)] [] L P → Iv X Y M n L P
  | 0, L, P, H => by
    obtain ⟨rfl, rfl⟩ := H
    exact Iv_0 hX hY
  | n + 1, L, P, H => by
    obtain ⟨L1, P1, h1, h2⟩ := H
    have := Iv_s hT ha hb (Iv_r hT ha hb hX hY n h1) h2
    exact this
theorem stp_u {a b X Y n : Int} {M : Int → Int → Int} {L P L1 P1 L2 P2 : List Qd} (hX : X ≤ 12) (hY : Y ≤ 12) (I : Iv X Y M n L P) (H : stp a b M L P L1 P1) (K : stp a b M L P L2 P2) : L1 = L2 ∧ P1 = P2 := by
  obtain ⟨x, y, w, h, R, rfl, S⟩ := H
  obtain ⟨x', y', w', h', R', e, T⟩ := K
  injection e with e1 e2
  injection e1 with e3 e4
  injection e4 with e5 e6
  injection e6 with e7 e8
  subst e2 e3 e5 e7 e8
  have hq := I.1 _ List.mem_cons_self
  unfold okQ at hq
  simp only at hq
  rcases S with ⟨s1, rfl, rfl⟩ | ⟨s1, rfl, C, s2, rfl⟩ | ⟨s1, rfl, rfl⟩
  · rcases T with ⟨t1, rfl, rfl⟩ | ⟨t1, -⟩ | ⟨t1, -⟩
    · exact ⟨rfl, rfl⟩
    · omega
    · omega
  · rcases T with ⟨t1, -⟩ | ⟨t1, rfl, D, t2, rfl⟩ | ⟨t1, -⟩
    · omega
    · rw [cutR_u (by omega) (by omega) s2 t2]; exact ⟨rfl, rfl⟩
    · omega
  · rcases T with ⟨t1, -⟩ | ⟨t1, -⟩ | ⟨t1, rfl, rfl⟩
    · omega
    · omega
    · exact ⟨rfl, rfl⟩
theorem run_u {a b X Y : Int} {M : Int → Int → Int} (hT : gT a b M X Y) (ha : 1 ≤ a) (hb : 1 ≤ b) (hX : 1 ≤ X ∧ X ≤ 12) (hY : 1 ≤ Y ∧ Y ≤ 12) : ∀ (n : Nat) {L P L' P' : List Qd}, runN a b M n [(0, 0, X, Y)] [] L P → runN a b M n [(0, 0, X, Y)] [] L' P' → L = L' ∧ P = P'
  | 0, L, P, L', P', H, K => ⟨H.1.trans K.1.symm, H.2.trans K.2.symm⟩
  | n + 1, L, P, L', P', H, K => by
    obtain ⟨L1, P1, h1, h2⟩ := H
    obtain ⟨L2, P2, k1, k2⟩ := K
    obtain ⟨rfl, rfl⟩ := run_u hT ha hb hX hY n h1 k1
    exact stp_u hX.2 hY.2 (Iv_r hT ha hb hX.1 hY.1 n h1) h2 k2
theorem run_st {a b X Y : Int} {M : Int → Int → Int} (hT : gT a b M X Y) (ha : 1 ≤ a) (hb : 1 ≤ b) (hX : 1 ≤ X ∧ X ≤ 12) (hY : 1 ≤ Y ∧ Y ≤ 12) {n : Nat} {P : List Qd} (H : runN a b M n [(0, 0, X, Y)] [] [] P) : ∀ (k : Nat) {L' P' : List Qd}, ¬ runN a b M (n + (k + 1)) [(0, 0, X, Y)] [] L' P'
  | 0, L', P', K => by
    obtain ⟨L1, P1, k1, x, y, w, h, R, k2, -⟩ := K
    have := (run_u hT ha hb hX hY n H k1).1
    rw [← this] at k2
    cases k2
  | k + 1, L', P', K => by
    obtain ⟨L1, P1, k1, -⟩ := K
    exact run_st hT ha hb hX hY H k k1
theorem run_e {a b X Y : Int} {M : Int → Int → Int} (hT : gT a b M X Y) (ha : 1 ≤ a) (hb : 1 ≤ b) (hX : 1 ≤ X ∧ X ≤ 12) (hY : 1 ≤ Y ∧ Y ≤ 12) {n m : Nat} {P P' : List Qd} (H : runN a b M n [(0, 0, X, Y)] [] [] P) (K : runN a b M m [(0, 0, X, Y)] [] [] P') : P = P' := by
  rcases Nat.lt_trichotomy n m with q | q | q
  · obtain ⟨k, rfl⟩ : ∃ k, m = n + (k + 1) := ⟨m - n - 1, by omega⟩
    exact absurd K (run_st hT ha hb hX hY H k)
  · subst q
    exact (run_u hT ha hb hX hY n H K).2
  · obtain ⟨k, rfl⟩ : ∃ k, n = m + (k + 1) := ⟨n - m - 1, by omega⟩
    exact absurd H (run_st hT ha hb hX hY K k)
theorem cutR_c {M N : Int → Int → Int} {x y w h : Int} {C : List Qd} (e : ∀ w' h', sB w h w' h' → M w' h' = N w' h') (e0 : M w h = N w h) (hw : 1 ≤ w) (hh : 1 ≤ h) (H : cutR M x y w h C) : cutR N x y w h C := by
  have eU : ∀ j, 1 ≤ j → j < w → cU M w h j = cU N w h j := fun j j1 j2 => cU_c e hh j1 j2
  have eL : ∀ j, 1 ≤ j → j < h → cL M w h j = cL N w h j := fun j j1 j2 => cL_c e hw j1 j2
  have fU : nU M w h → nU N w h := fun z j j1 j2 => by rw [← eU j j1 j2, ← e0]; exact z j j1 j2
  have fL : nL M w h → nL N w h := fun z j j1 j2 => by rw [← eL j j1 j2, ← e0]; exact z j j1 j2
  rcases H with ⟨k, k1, k2, k3, k4, k5⟩ | ⟨n1, k, k1, k2, k3, k4, k5⟩ | ⟨n1, n2, x1, x2, y1, y2, hv, k3, k4, k5⟩
  · exact Or.inl ⟨k, k1, k2, by rw [← eU k k1 k2, ← e0]; exact k3, fun j j1 j2 => by rw [← eU j j1 (by omega), ← e0]; exact k4 j j1 j2, k5⟩
  · exact Or.inr (Or.inl ⟨fU n1, k, k1, k2, by rw [← eL k k1 k2, ← e0]; exact k3, fun j j1 j2 => by rw [← eL j j1 (by omega), ← e0]; exact k4 j j1 j2, k5⟩)
  · exact Or.inr (Or.inr ⟨fU n1, fL n2, x1, x2, y1, y2, hv, by rw [← cP_c e (by omega) hv, ← e0]; exact k3, fun a b c d hv' hk => by show cP N w h a b c d ≠ N w h; rw [← cP_c e (by omega) hv', ← e0]; exact k4 a b c d hv' hk, k5⟩)
theorem run_c {a b X Y : Int} {M N : Int → Int → Int} (hT : gT a b M X Y) (hN : gT a b N X Y) (ha : 1 ≤ a) (hb : 1 ≤ b) (hX : 1 ≤ X ∧ X ≤ 12) (hY : 1 ≤ Y ∧ Y ≤ 12) : ∀ (n : Nat) {L P : List Qd}, runN a b M n [(0, 0, X, Y)] [] L P → runN a b N n [(0, 0, X, Y)] [] L P
  | 0, L, P, H => H
  | n + 1, L, P, H => by
    obtain ⟨L1, P1, h1, h2⟩ := H
    refine ⟨L1, P1, run_c hT hN ha hb hX hY n h1, ?_⟩
    have I := Iv_r hT ha hb hX.1 hY.1 n h1
    obtain ⟨x, y, w, h, R, rfl, S⟩ := h2
    have hq := I.1 _ List.mem_cons_self
    unfold okQ at hq
    simp only at hq
    have e0 : M w h = N w h := gT_u hT hN (by omega) (by omega) (by omega) (by omega)
    have e : ∀ w' h', sB w h w' h' → M w' h' = N w' h' := fun w' h' hs => by
      unfold sB at hs
      exact gT_u hT hN (by omega) (by omega) (by omega) (by omega)
    refine ⟨x, y, w, h, R, rfl, ?_⟩
    rcases S with ⟨s1, s2, s3⟩ | ⟨s1, s2, C, s3, s4⟩ | ⟨s1, s2, s3⟩
    · exact Or.inl ⟨by rw [← e0]; exact s1, s2, s3⟩
    · exact Or.inr (Or.inl ⟨by rw [← e0]; exact s1, s2, C, cutR_c e e0 (by omega) (by omega) s3, s4⟩)
    · exact Or.inr (Or.inr ⟨by rw [← e0]; exact s1, s2, s3⟩)
/-- P: the places of the layer of x by y of cases of a by b, the newest first -/
def isLay (a b X Y : Int) (P : List Qd) : Prop := ∃ M n, gT a b M X Y ∧ runN a b M n [(0, 0, X, Y)] [] [] P
theorem isLay_u {a b X Y : Int} {P P' : List Qd} (ha : 1 ≤ a) (hb : 1 ≤ b) (hX : 1 ≤ X ∧ X ≤ 12) (hY : 1 ≤ Y ∧ Y ≤ 12) (H : isLay a b X Y P) (K : isLay a b X Y P') : P = P' := by
  obtain ⟨M, n, h1, h2⟩ := H
  obtain ⟨N, m, k1, k2⟩ := K
  exact run_e k1 ha hb hX hY (run_c h1 k1 ha hb hX hY n h2) k2
theorem isLay_ok {a b X Y : Int} {P : List Qd} (ha : 1 ≤ a) (hb : 1 ≤ b) (hX : 1 ≤ X ∧ X ≤ 12) (hY : 1 ≤ Y ∧ Y ≤ 12) (H : isLay a b X Y P) : (∀ q ∈ P, okQ X Y q) ∧ (P.length : Int) ≤ 144 ∧ ∀ s t, sumL (cov s t) P ≤ 1 := by
  obtain ⟨M, n, h1, h2⟩ := H
  obtain ⟨-, i2, i3, -, -, i6⟩ := Iv_r h1 ha hb hX.1 hY.1 n h2
  have h3 := wh_144 (w := X) (h := Y) (by omega) (by omega)
  refine ⟨i2, by have e : sumL ar [] = 0 := rfl; omega, fun s t => ?_⟩
  have := i6 s t
  have e : sumL (cov s t) [] = 0 := rfl
  omega
/-- the pinwheel that is first among those with no arm narrower than n is first among all -/
theorem cut_w {a b n x y w h x1 x2 y1 y2 : Int} {M : Int → Int → Int} (hn : n ≤ a ∧ n ≤ b) (hn1 : 1 ≤ n) (G : gB a b M w h) (H : isB a b M w h (M w h)) (h1 : nU M w h) (h2 : nL M w h) (hv : vN n w h x1 x2 y1 y2) (hc : cP M w h x1 x2 y1 y2 = M w h) (hK : aK n w h (4096 * x1 + 256 * x2 + 16 * y1 + y2) (fun a b c d => cP M w h a b c d ≠ M w h)) : cutR M x y w h (pw x y w h x1 x2 y1 y2) := by
  refine Or.inr (Or.inr ⟨h1, h2, x1, x2, y1, y2, by unfold vN at *; omega, hc, fun a' b' c' d' hv' hk => ?_, rfl⟩)
  by_cases q : vN n w h a' b' c' d'
  · exact hK a' b' c' d' q hk
  · have := xP (v := M w h - 1) hn G (fun k k1 k2 => by have := H.1.2.1 k k1 k2; have := h1 k k1 k2; omega) (fun k k1 k2 => by have := H.1.2.2.1 k k1 k2; have := h2 k k1 k2; omega) hv' q
    omega
theorem cut_n {a b n w h : Int} {M : Int → Int → Int} (hn : n ≤ a ∧ n ≤ b) (G : gB a b M w h) (H : isB a b M w h (M w h)) (h1 : nU M w h) (h2 : nL M w h) (hm : 1 < M w h) (hK : ∀ x1 x2 y1 y2, vN n w h x1 x2 y1 y2 → cP M w h x1 x2 y1 y2 ≠ M w h) : False := by
  rcases H.2 with d | ⟨k, k1, k2, d⟩ | ⟨k, k1, k2, d⟩ | ⟨x1, x2, y1, y2, hv, d⟩
  · have := bs_01 a b w h; omega
  · exact h1 k k1 k2 d.symm
  · exact h2 k k1 k2 d.symm
  · by_cases q : vN n w h x1 x2 y1 y2
    · exact hK _ _ _ _ q d.symm
    · have := xP (v := M w h - 1) hn G (fun k k1 k2 => by have := H.1.2.1 k k1 k2; have := h1 k k1 k2; omega) (fun k k1 k2 => by have := H.1.2.2.1 k k1 k2; have := h2 k k1 k2; omega) hv q
      omega

end LAYERS0
