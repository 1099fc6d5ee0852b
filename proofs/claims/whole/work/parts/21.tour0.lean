section TOURS0
/-- sets of kinds as whole numbers 0..63: a bit, without it, with it, a difference, how many -/
def bt (s k : Int) : Int := (((s.toNat >>> k.toNat) &&& 1 : Nat) : Int)
def rb (s k : Int) : Int := ((s.toNat &&& (63 ^^^ (1 <<< k.toNat)) : Nat) : Int)
def ab (s k : Int) : Int := ((s.toNat ||| (1 <<< k.toNat) : Nat) : Int)
def df (s g : Int) : Int := ((s.toNat &&& (63 ^^^ g.toNat) : Nat) : Int)
def pcn (s : Int) : Int := bt s 0 + bt s 1 + bt s 2 + bt s 3 + bt s 4 + bt s 5
theorem fin1Na : ∀ s < 64, ∀ k < 6, (bt (s : Nat) (k : Nat) = 0 ∨ bt s k = 1) ∧ (0 ≤ rb s k ∧ rb s k ≤ 63) ∧ (bt s k = 0 ∨ (rb s k < s ∧ pcn (rb s k) + 1 = pcn s)) := by decide +kernel
theorem fin1Nb : ∀ s < 64, ∀ k < 6, (0 ≤ ab (s : Nat) (k : Nat) ∧ ab s k ≤ 63) ∧ bt (ab s k) k ≠ 0 ∧ (bt s k ≠ 0 ∨ ((s : Int) < ab s k ∧ pcn (ab s k) = pcn s + 1)) := by decide +kernel
theorem fin1Nc : ∀ s < 64, 0 ≤ pcn (s : Nat) ∧ pcn s ≤ 6 := by decide +kernel
theorem fin1N (s : Nat) (h : s < 64) (k : Nat) (hk : k < 6) : (bt (s : Nat) (k : Nat) = 0 ∨ bt s k = 1) ∧ (0 ≤ rb s k ∧ rb s k ≤ 63) ∧ (bt s k ≠ 0 → rb s k < s ∧ pcn (rb s k) + 1 = pcn s) ∧ (0 ≤ ab s k ∧ ab s k ≤ 63) ∧ bt (ab s k) k ≠ 0 ∧ (bt s k = 0 → (s : Int) < ab s k ∧ pcn (ab s k) = pcn s + 1) ∧ (0 ≤ pcn s ∧ pcn s ≤ 6) := by
  have a := fin1Na s h k hk
  have b := fin1Nb s h k hk
  have c := fin1Nc s h
  exact ⟨a.1, a.2.1, fun q => a.2.2.resolve_left q, b.1, b.2.1, fun q => b.2.2.resolve_left (fun z => z q), c⟩
theorem fin1B : ∀ s < 64, ∀ k < 6, (iI (s : Nat) >>> (iI (k : Nat) &&& 31)) &&& iI 1 = iI (bt s k) ∧ iI (s : Nat) &&& ((iI 1 <<< (iI (k : Nat) &&& 31)) ^^^ iI (-1)) = iI (rb s k) ∧ iI (s : Nat) ||| (iI 1 <<< (iI (k : Nat) &&& 31)) = iI (ab s k) ∧ iI 1 <<< (iI (k : Nat) &&& 31) = iI (ab 0 k) := by decide +kernel
theorem fin2N : ∀ s < 64, ∀ g < 64, (0 ≤ df (s : Nat) (g : Nat) ∧ df s g ≤ 63) ∧ iI (s : Nat) &&& (iI (g : Nat) ^^^ iI (-1)) = iI (df s g) := by decide +kernel
theorem fin3Na : ∀ s < 64, ∀ g < 64, ∀ q < 6, df (s : Nat) (ab (g : Nat) (q : Nat)) = rb (df s g) q := by decide +kernel
theorem fin3Nb : ∀ s < 64, ∀ g < 64, ∀ q < 6, bt (df (s : Nat) (g : Nat)) (q : Nat) = 0 ∨ bt g q = 0 := by decide +kernel
theorem fin3Nc : ∀ s < 64, ∀ g < 64, ∀ q < 6, bt (df (s : Nat) (g : Nat)) (q : Nat) = 0 ∨ df g s ≠ 0 ∨ df (ab g q) s = 0 := by decide +kernel
theorem fin3N (s : Nat) (h : s < 64) (g : Nat) (hg : g < 64) (q : Nat) (hq : q < 6) : df (s : Nat) (ab (g : Nat) (q : Nat)) = rb (df s g) q ∧ (bt (df s g) q ≠ 0 → bt g q = 0 ∧ (df g s = 0 → df (ab g q) s = 0)) :=
  ⟨fin3Na s h g hg q hq, fun z => ⟨(fin3Nb s h g hg q hq).resolve_left z, fun y => ((fin3Nc s h g hg q hq).resolve_left z).resolve_left (fun w => w y)⟩⟩
theorem fin4N : ∀ s < 64, (bt (s : Nat) 0 = 0 ∧ bt s 1 = 0 ∧ bt s 2 = 0 ∧ bt s 3 = 0 ∧ bt s 4 = 0 ∧ bt s 5 = 0 → (s : Int) = 0) ∧ (pcn s = 0 → (s : Int) = 0) := by decide +kernel
theorem fin5N : ∀ s < 64, ∀ k < 6, df (s : Nat) (ab 0 (k : Nat)) = rb s k ∧ (bt s k ≠ 0 → df (ab 0 k) s = 0) := by decide +kernel
theorem fin1 {s k : Int} (hs : 0 ≤ s ∧ s ≤ 63) (hk : 0 ≤ k ∧ k ≤ 5) : (bt s k = 0 ∨ bt s k = 1) ∧ (0 ≤ rb s k ∧ rb s k ≤ 63) ∧ (bt s k ≠ 0 → rb s k < s ∧ pcn (rb s k) + 1 = pcn s) ∧ (0 ≤ ab s k ∧ ab s k ≤ 63) ∧ bt (ab s k) k ≠ 0 ∧ (bt s k = 0 → s < ab s k ∧ pcn (ab s k) = pcn s + 1) ∧ (0 ≤ pcn s ∧ pcn s ≤ 6) := by
  have h := fin1N s.toNat (by omega) k.toNat (by omega)
  rw [Int.toNat_of_nonneg hs.1, Int.toNat_of_nonneg hk.1] at h
  exact h
theorem b32 {s k : Int} (hs : 0 ≤ s ∧ s ≤ 63) (hk : 0 ≤ k ∧ k ≤ 5) : (iI s >>> (iI k &&& 31)) &&& iI 1 = iI (bt s k) ∧ iI s &&& ((iI 1 <<< (iI k &&& 31)) ^^^ iI (-1)) = iI (rb s k) ∧ iI s ||| (iI 1 <<< (iI k &&& 31)) = iI (ab s k) ∧ iI 1 <<< (iI k &&& 31) = iI (ab 0 k) := by
  have h := fin1B s.toNat (by omega) k.toNat (by omega)
  rw [Int.toNat_of_nonneg hs.1, Int.toNat_of_nonneg hk.1] at h
  exact h
theorem fin2 {s g : Int} (hs : 0 ≤ s ∧ s ≤ 63) (hg : 0 ≤ g ∧ g ≤ 63) : (0 ≤ df s g ∧ df s g ≤ 63) ∧ iI s &&& (iI g ^^^ iI (-1)) = iI (df s g) := by
  have h := fin2N s.toNat (by omega) g.toNat (by omega)
  rw [Int.toNat_of_nonneg hs.1, Int.toNat_of_nonneg hg.1] at h
  exact h
theorem fin3 {s g q : Int} (hs : 0 ≤ s ∧ s ≤ 63) (hg : 0 ≤ g ∧ g ≤ 63) (hq : 0 ≤ q ∧ q ≤ 5) : df s (ab g q) = rb (df s g) q ∧ (bt (df s g) q ≠ 0 → bt g q = 0 ∧ (df g s = 0 → df (ab g q) s = 0)) := by
  have h := fin3N s.toNat (by omega) g.toNat (by omega) q.toNat (by omega)
  rw [Int.toNat_of_nonneg hs.1, Int.toNat_of_nonneg hg.1, Int.toNat_of_nonneg hq.1] at h
  exact h
theorem fin4 {s : Int} (hs : 0 ≤ s ∧ s ≤ 63) : (bt s 0 = 0 ∧ bt s 1 = 0 ∧ bt s 2 = 0 ∧ bt s 3 = 0 ∧ bt s 4 = 0 ∧ bt s 5 = 0 → s = 0) ∧ (pcn s = 0 → s = 0) := by
  have h := fin4N s.toNat (by omega)
  rw [Int.toNat_of_nonneg hs.1] at h
  exact h
theorem fin5 {s k : Int} (hs : 0 ≤ s ∧ s ≤ 63) (hk : 0 ≤ k ∧ k ≤ 5) : df s (ab 0 k) = rb s k ∧ (bt s k ≠ 0 → df (ab 0 k) s = 0) := by
  have h := fin5N s.toNat (by omega) k.toNat (by omega)
  rw [Int.toNat_of_nonneg hs.1, Int.toNat_of_nonneg hk.1] at h
  exact h
/-- the lowest of those that p takes with the least v, of the first n; -4: none -/
def nkF (p v : Int → Int) : Nat → Int
  | 0 => -4
  | n + 1 => if p n ≠ 0 ∧ (nkF p v n = -4 ∨ v n < v (nkF p v n)) then (n : Int) else nkF p v n
def nk (p v : Int → Int) (n : Int) : Int := nkF p v n.toNat
theorem nk_s (p v : Int → Int) {i : Int} (h : 0 ≤ i) : nk p v (i + 1) = if p i ≠ 0 ∧ (nk p v i = -4 ∨ v i < v (nk p v i)) then i else nk p v i := by
  unfold nk
  rw [show (i + 1).toNat = i.toNat + 1 by omega]
  show (if p (i.toNat : Int) ≠ 0 ∧ (nkF p v i.toNat = -4 ∨ v (i.toNat : Int) < v (nkF p v i.toNat)) then (i.toNat : Int) else nkF p v i.toNat) = _
  rw [show ((i.toNat : Nat) : Int) = i by omega]
theorem nkF_sp (p v : Int → Int) : ∀ n : Nat, (nkF p v n = -4 ∧ ∀ q : Int, 0 ≤ q → q < n → p q = 0) ∨ (0 ≤ nkF p v n ∧ nkF p v n < n ∧ p (nkF p v n) ≠ 0 ∧ ∀ q : Int, 0 ≤ q → q < n → p q ≠ 0 → v (nkF p v n) ≤ v q ∧ (v q = v (nkF p v n) → nkF p v n ≤ q))
  | 0 => Or.inl ⟨rfl, fun q h0 h1 => by omega⟩
  | n + 1 => by
    have ih := nkF_sp p v n
    have e : nkF p v (n + 1) = if p n ≠ 0 ∧ (nkF p v n = -4 ∨ v n < v (nkF p v n)) then (n : Int) else nkF p v n := rfl
    rw [e]
    by_cases c : p n ≠ 0 ∧ (nkF p v n = -4 ∨ v n < v (nkF p v n))
    · rw [if_pos c]
      refine Or.inr ⟨by omega, by omega, c.1, fun q h0 h1 hp => ?_⟩
      by_cases eq : q = n
      · rw [eq]; exact ⟨by omega, fun _ => by omega⟩
      · rcases ih with ⟨i1, i2⟩ | ⟨i1, i2, i3, i4⟩
        · exact absurd (i2 q h0 (by omega)) hp
        · have := i4 q h0 (by omega) hp
          rcases c.2 with c2 | c2
          · omega
          · exact ⟨by omega, by omega⟩
    · rw [if_neg c]
      rcases ih with ⟨i1, i2⟩ | ⟨i1, i2, i3, i4⟩
      · refine Or.inl ⟨i1, fun q h0 h1 => ?_⟩
        by_cases eq : q = n
        · rw [eq]
          by_cases z : p n = 0
          · exact z
          · exact absurd ⟨z, Or.inl i1⟩ c
        · exact i2 q h0 (by omega)
      · refine Or.inr ⟨i1, by omega, i3, fun q h0 h1 hp => ?_⟩
        by_cases eq : q = n
        · rw [eq] at hp ⊢
          have : ¬ v n < v (nkF p v n) := fun z => c ⟨hp, Or.inr z⟩
          omega
        · exact i4 q h0 (by omega) hp
theorem nk_sp (p v : Int → Int) {n : Int} (h : 0 ≤ n) : (nk p v n = -4 ∧ ∀ q : Int, 0 ≤ q → q < n → p q = 0) ∨ (0 ≤ nk p v n ∧ nk p v n < n ∧ p (nk p v n) ≠ 0 ∧ ∀ q : Int, 0 ≤ q → q < n → p q ≠ 0 → v (nk p v n) ≤ v q ∧ (v q = v (nk p v n) → nk p v n ≤ q)) := by
  have := nkF_sp p v n.toNat
  rw [show ((n.toNat : Nat) : Int) = n by omega] at this
  exact this
theorem nk_u {p v : Int → Int} {n x : Int} (h : 0 ≤ n) (h0 : 0 ≤ x) (h1 : x < n) (hp : p x ≠ 0) (hm : ∀ q : Int, 0 ≤ q → q < n → p q ≠ 0 → v x ≤ v q ∧ (v q = v x → x ≤ q)) : nk p v n = x := by
  rcases nk_sp p v h with ⟨a, b⟩ | ⟨a, b, c, d⟩
  · exact absurd (b x h0 h1) hp
  · have e1 := d x h0 h1 hp
    have e2 := hm _ a b c
    have e3 : v x = v (nk p v n) := by omega
    have := e1.2 e3
    have := e2.2 e3.symm
    omega
theorem nk_c {p v w : Int → Int} {n : Int} (h : 0 ≤ n) (hv : ∀ q, 0 ≤ q → q < n → p q ≠ 0 → v q = w q) : nk p v n = nk p w n := by
  rcases nk_sp p w h with ⟨a, b⟩ | ⟨a, b, c, d⟩
  · rcases nk_sp p v h with ⟨a', b'⟩ | ⟨a', b', c', d'⟩
    · omega
    · exact absurd (b _ a' b') c'
  · refine nk_u h a b c (fun q q0 q1 qp => ?_)
    rw [hv q q0 q1 qp, hv _ a b c]
    exact d q q0 q1 qp
theorem nk_bt {L : Int} (v : Int → Int) (hL : 0 ≤ L ∧ L ≤ 63) : nk (bt L) v 6 = -4 ↔ L = 0 := by
  rcases nk_sp (bt L) v (show (0:Int) ≤ 6 by omega) with ⟨a, b⟩ | ⟨a, b, c, d⟩
  · exact ⟨fun _ => (fin4 hL).1 ⟨b 0 (by omega) (by omega), b 1 (by omega) (by omega), b 2 (by omega) (by omega), b 3 (by omega) (by omega), b 4 (by omega) (by omega), b 5 (by omega) (by omega)⟩, fun _ => a⟩
  · refine ⟨fun z => by omega, fun z => ?_⟩
    subst z
    have e : ∀ k : Nat, k < 6 → bt 0 (k : Int) = 0 := by decide
    have := e (nk (bt 0) v 6).toNat (by omega)
    rw [show (((nk (bt 0) v 6).toNat : Nat) : Int) = nk (bt 0) v 6 by omega] at this
    exact absurd this c
/-- the least rest of a tour from k through L, by fuel -/
def tT (c : Int → Int → Int) : Nat → Int → Int → Int
  | 0, _, _ => 0
  | n + 1, k, L => if L = 0 then 0 else c k (nk (bt L) (fun q => c k q + tT c n q (rb L q)) 6) + tT c n (nk (bt L) (fun q => c k q + tT c n q (rb L q)) 6) (rb L (nk (bt L) (fun q => c k q + tT c n q (rb L q)) 6))
def tN (c : Int → Int → Int) (k L : Int) : Int := nk (bt L) (fun q => c k q + tT c 6 q (rb L q)) 6
def tW (c : Int → Int → Int) : Nat → Int → Int → Int
  | 0, k, _ => k
  | n + 1, k, L => if L = 0 then -4 else tW c n (tN c k L) (rb L (tN c k L))
theorem tT_0 (c : Int → Int → Int) : ∀ n k, tT c n k 0 = 0
  | 0, _ => rfl
  | n + 1, k => if_pos rfl
/-- any table by the rule is tT: t over valid places x of sets S x -/
theorem tT_u (c : Int → Int → Int) {α : Type} (ok : α → Prop) (S : α → Int) (kd : α → Int) (nx : α → Int → α) (r : α → Int)
    (hS : ∀ x, ok x → 0 ≤ S x ∧ S x ≤ 63) (hn : ∀ x q, ok x → 0 ≤ q → q ≤ 5 → bt (S x) q ≠ 0 → ok (nx x q) ∧ S (nx x q) = rb (S x) q ∧ kd (nx x q) = q)
    (hr : ∀ x, ok x → r x = if S x = 0 then 0 else c (kd x) (nk (bt (S x)) (fun q => c (kd x) q + r (nx x q)) 6) + r (nx x (nk (bt (S x)) (fun q => c (kd x) q + r (nx x q)) 6))) :
    ∀ (n : Nat) (x : α), ok x → pcn (S x) ≤ n → r x = tT c n (kd x) (S x)
  | 0, x, hx, hp => by
    have h6 := (fin1 (hS x hx) (k := 0) ⟨by omega, by omega⟩).2.2.2.2.2.2
    have e : S x = 0 := (fin4 (hS x hx)).2 (by omega)
    rw [hr x hx, if_pos e]; rfl
  | n + 1, x, hx, hp => by
    have ih := tT_u c ok S kd nx r hS hn hr n
    have hh : ∀ q, 0 ≤ q → q < 6 → bt (S x) q ≠ 0 → r (nx x q) = tT c n q (rb (S x) q) := by
      intro q q0 q1 qb
      obtain ⟨a1, a2, a3⟩ := hn x q hx q0 (by omega) qb
      have h1 := (fin1 (hS x hx) (k := q) ⟨q0, by omega⟩).2.2.1 qb
      have := ih (nx x q) a1 (by rw [a2]; omega)
      rw [a2, a3] at this
      exact this
    rw [hr x hx]
    show _ = if S x = 0 then 0 else _
    by_cases e : S x = 0
    · rw [if_pos e, if_pos e]
    · rw [if_neg e, if_neg e]
      have hc : nk (bt (S x)) (fun q => c (kd x) q + r (nx x q)) 6 = nk (bt (S x)) (fun q => c (kd x) q + tT c n q (rb (S x) q)) 6 := nk_c (by omega) (fun q q0 q1 qb => by rw [hh q q0 q1 qb])
      rw [hc]
      rcases nk_sp (bt (S x)) (fun q => c (kd x) q + tT c n q (rb (S x) q)) (show (0:Int) ≤ 6 by omega) with ⟨a, b⟩ | ⟨a1, a2, a3, a4⟩
      · exact absurd ((nk_bt _ (hS x hx)).mp a) e
      · rw [hh _ a1 a2 a3]
theorem tW_4 (c : Int → Int → Int) : ∀ (n : Nat) (k L : Int), 0 ≤ L ∧ L ≤ 63 → pcn L < n → tW c n k L = -4
  | 0, k, L, hL, h => by have := (fin1 hL (k := 0) ⟨by omega, by omega⟩).2.2.2.2.2.2; omega
  | n + 1, k, L, hL, h => by
    show (if L = 0 then -4 else tW c n (tN c k L) (rb L (tN c k L))) = -4
    by_cases e : L = 0
    · rw [if_pos e]
    · rw [if_neg e]
      rcases nk_sp (bt L) (fun q => c k q + tT c 6 q (rb L q)) (show (0:Int) ≤ 6 by omega) with ⟨a, b⟩ | ⟨a1, a2, a3, a4⟩
      · exact absurd ((nk_bt _ hL).mp a) e
      · have h1 := fin1 hL (k := tN c k L) ⟨a1, by unfold tN; omega⟩
        have h2 := h1.2.2.1 a3
        exact tW_4 c n _ _ h1.2.1 (by omega)
def f_tour (c : Int → Int → Int) (s f i : Int) : Int :=
  if ¬ ((1 ≤ s ∧ s ≤ 63) ∧ (0 ≤ f ∧ f ≤ 5) ∧ bt s f ≠ 0 ∧ -1 ≤ i) then -1 else if i < 0 then tT c 6 f (rb s f) else tW c i.toNat f (rb s f)

end TOURS0
