/-! THE LAYER: goals in the pure words (world, locals, pc, stack); every row of the kit once more, over them. -/
section LAYER
/-- the whole numbers as Java's ints -/
def iI (x : Int) : Int32 := Int32.ofInt x
theorem iI_add (x y : Int) : iI x + iI y = iI (x + y) := (Int32.ofInt_add x y).symm
theorem iI_sub (x y : Int) : iI x - iI y = iI (x - y) := (Int32.ofInt_sub x y).symm
theorem iI_mul (x y : Int) : iI x * iI y = iI (x * y) := (Int32.ofInt_mul x y).symm
theorem iI_neg (x : Int) : -(iI x) = iI (-x) := (Int32.ofInt_neg x).symm
def R32 (x : Int) : Prop := -2147483648 ≤ x ∧ x ≤ 2147483647
theorem iI_toInt {x : Int} (h : R32 x) : (iI x).toInt = x := by
  unfold iI R32 at *
  exact Int32.toInt_ofInt_of_le (by simpa using h.1) (by have := h.2; omega)
theorem iI_of (x : Int32) : iI x.toInt = x := by unfold iI; simp
theorem R32_of (x : Int32) : R32 x.toInt := by
  have h1 := Int32.le_toInt x
  have h2 := Int32.toInt_lt x
  unfold R32
  omega
theorem iI_ex (x : Int32) : ∃ y : Int, x = iI y ∧ R32 y := ⟨x.toInt, (iI_of x).symm, R32_of x⟩
theorem iI_lt {x y : Int} (hx : R32 x) (hy : R32 y) : iI x < iI y ↔ x < y := by rw [Int32.lt_iff_toInt_lt, iI_toInt hx, iI_toInt hy]
theorem iI_le {x y : Int} (hx : R32 x) (hy : R32 y) : iI x ≤ iI y ↔ x ≤ y := by rw [Int32.le_iff_toInt_le, iI_toInt hx, iI_toInt hy]
theorem iI_eq {x y : Int} (hx : R32 x) (hy : R32 y) : iI x = iI y ↔ x = y := ⟨fun h => by rw [← iI_toInt hx, h, iI_toInt hy], fun h => by rw [h]⟩
theorem iI_0 : (0 : Int32) = iI 0 := rfl
theorem R32_0 : R32 0 := by unfold R32; omega
theorem iI_in {x : Int} {n : Nat} (h0 : 0 ≤ x) (h1 : x < n) (hn : (n : Int) ≤ 2147483647) : vp_in (iI x) n := by
  have hr : R32 x := by unfold R32; omega
  rw [vp_in_iff, iI_toInt hr]
  exact ⟨h0, h1⟩
theorem iI_cl {x : Int} (h0 : 0 ≤ x) (h1 : x ≤ 2147483647) : ((iI x).toNatClampNeg : Int) = x := by
  have hr : R32 x := by unfold R32; omega
  have := iI_toInt hr
  rw [show (iI x).toNatClampNeg = (iI x).toInt.toNat from rfl, this]
  omega
theorem nI_iI (n : Nat) : nI n = iI (n : Int) := rfl


abbrev Ev : Type := va_G × ClassId × ClassId × ClassId
abbrev tysE (E : Ev) : List (ClassId × FieldType) := [(E.2.1, .int), (E.2.2.1, .boolean), (E.2.2.2, .object "CaseLine$Machine")]
def aI (E : Ev) (n : Nat) (f : Int → Int) : va_E := .inl (E.2.1, n, .inl (fun k => iI (f (k : Int))))
def aZ (E : Ev) (n : Nat) (f : Int → Int) : va_E := .inl (E.2.2.1, n, .inl (fun k => iI (f (k : Int))))
def aM (E : Ev) (n : Nat) (f : Int → Option Nat) : va_E := .inl (E.2.2.2, n, .inr (.inr (.inr (.inr (fun k => f (k : Int))))))
def oo (ci : Nat) (fs : List Value) : va_E := .inr (ci, fs)
def up (f : Int → Int) (i v : Int) : Int → Int := fun j => if j = i then v else f j
def upq (f : Int → Option Nat) (i : Int) (v : Option Nat) : Int → Option Nat := fun j => if j = i then v else f j
theorem up_s (f : Int → Int) (i v : Int) : up f i v i = v := if_pos rfl
theorem up_n (f : Int → Int) {i j : Int} (v : Int) (h : j ≠ i) : up f i v j = f j := if_neg h
theorem up_fun {f : Int → Int} {i v : Int} (h0 : 0 ≤ i) (h1 : i ≤ 2147483647) : upd (fun k : Nat => iI (f (k : Int))) (iI i).toNatClampNeg (iI v) = (fun k : Nat => iI (up f i v (k : Int))) := by
  funext k
  have hc := iI_cl h0 h1
  unfold upd up
  by_cases hk : k = (iI i).toNatClampNeg
  · rw [if_pos hk, if_pos (by omega)]
  · rw [if_neg hk, if_neg (by omega)]
theorem upq_fun {f : Int → Option Nat} {i : Int} {v : Option Nat} (h0 : 0 ≤ i) (h1 : i ≤ 2147483647) : va_up (fun k : Nat => f (k : Int)) (iI i).toNatClampNeg v = (fun k : Nat => upq f i v (k : Int)) := by
  funext k
  have hc := iI_cl h0 h1
  unfold va_up upq
  by_cases hk : k = (iI i).toNatClampNeg
  · rw [if_pos hk, if_pos (by omega)]
  · rw [if_neg hk, if_neg (by omega)]
/-- static tables: address, class, name, length, contents -/
abbrev Zs : Type := List (Nat × String × String × Nat × (Int → Int))
def zA (t N : Nat) (f : Int → Int) (A : Nat → Prop) (U : State) (H : Heap) : Prop := ∃ cell : Cell, H[t]? = some cell ∧ U.isArrayOf cell .int ∧ cell.vm ≠ .unknown ∧ cell.slots.size = N ∧ (∀ j : Nat, j < N → cell.slots[j]? = some (.int (iI (f (j : Int))))) ∧ ¬ A t
def zT (q : Nat × String × String × Nat × (Int → Int)) (A : Nat → Prop) (U : State) (H : Heap) : Prop := va_Z q.2.1 q.2.2.1 "[I" (.ref q.1) A U H ∧ zA q.1 q.2.2.2.1 q.2.2.2.2 A U H
def NWs (U : State) : Prop := va_Nw (.methodLinkNest RX1 17 yX2_init "CaseLine") U ∧ va_Nw (.methodLinkNest RX6 25 yX4_init "CaseLine") U ∧ va_Nw (.methodLinkNest RX3 69 yX6_within "CaseLine") U ∧ va_Nw (.methodLinkNest RX2 25 yX6_within "CaseLine") U ∧ va_Nw (.methodLinkNest RX1 130 yX6_within "CaseLine") U ∧ va_Nw (.methodLinkNest RX0 47 yX6_within "CaseLine") U ∧ va_Nw (.methodLinkNest RX0 71 yX6_isBox "CaseLine") U ∧ va_Nw (.methodLinkNest RX0 77 yX6_isPallet "CaseLine") U ∧ va_Nw (.methodLinkNest RX4 132 yX6_within "CaseLine") U ∧ va_Nw (.methodLinkNest RX5 59 yX6_isKind "CaseLine") U ∧ va_Nw (.methodLinkNest RX5 55 yX6_within "CaseLine") U ∧ va_Nw (.castable "[I" "java/lang/Cloneable") U ∧ va_AO "CaseLine$Machine" U
theorem NWs.warm {s U : State} (hW : s.WarmedH U.vm) (h : NWs s) : NWs U := ⟨h.1.warmM hW, h.2.1.warmM hW, h.2.2.1.warmM hW, h.2.2.2.1.warmM hW, h.2.2.2.2.1.warmM hW, h.2.2.2.2.2.1.warmM hW, h.2.2.2.2.2.2.1.warmM hW, h.2.2.2.2.2.2.2.1.warmM hW, h.2.2.2.2.2.2.2.2.1.warmM hW, h.2.2.2.2.2.2.2.2.2.1.warmM hW, h.2.2.2.2.2.2.2.2.2.2.1.warmM hW, h.2.2.2.2.2.2.2.2.2.2.2.1.warmC hW, h.2.2.2.2.2.2.2.2.2.2.2.2.moved hW.alike⟩
theorem NWs.same {u U : State} (hv : u.vm = U.vm) (h : NWs u) : NWs U := ⟨va_Nw.same rfl hv h.1, va_Nw.same rfl hv h.2.1, va_Nw.same rfl hv h.2.2.1, va_Nw.same rfl hv h.2.2.2.1, va_Nw.same rfl hv h.2.2.2.2.1, va_Nw.same rfl hv h.2.2.2.2.2.1, va_Nw.same rfl hv h.2.2.2.2.2.2.1, va_Nw.same rfl hv h.2.2.2.2.2.2.2.1, va_Nw.same rfl hv h.2.2.2.2.2.2.2.2.1, va_Nw.same rfl hv h.2.2.2.2.2.2.2.2.2.1, va_Nw.same rfl hv h.2.2.2.2.2.2.2.2.2.2.1, va_Nw.same rfl hv h.2.2.2.2.2.2.2.2.2.2.2.1, va_AO.moved (by rw [hv]; exact Vm.Alike.refl _) h.2.2.2.2.2.2.2.2.2.2.2.2⟩
def zAll (zs : Zs) (A : Nat → Prop) (U : State) (H : Heap) : Prop := (∀ q ∈ zs, zT q A U H) ∧ NWs U
theorem zAll.same {zs : Zs} {A : Nat → Prop} {u U : State} {H : Heap} (hv : u.vm = U.vm) (hvm : u.vm.Alike U.vm) (h : zAll zs A u H) : zAll zs A U H := ⟨fun q hq => by
  obtain ⟨h1, cell, h2, h3, h4⟩ := h.1 q hq
  exact ⟨va_Z.moved hvm h1, cell, h2, State.isArrayOf_alike hvm h3, h4⟩, h.2.same hv⟩
theorem zAll.warm {zs : Zs} {A : Nat → Prop} {u U : State} {H : Heap} (hW : u.WarmedH U.vm) (h : zAll zs A u H) : zAll zs A U H := ⟨fun q hq => by
  obtain ⟨h1, cell, h2, h3, h4⟩ := h.1 q hq
  exact ⟨va_Z.moved hW.alike h1, cell, h2, State.isArrayOf_alike hW.alike h3, h4⟩, h.2.warm hW⟩
theorem zAll.kept {zs : Zs} {A : Nat → Prop} {U : State} {H H1 : Heap} (h : zAll zs A U H) (hq : ∀ a : Nat, a < H.size → ¬ A a → H1[a]? = H[a]?) : zAll zs A U H1 := ⟨fun q h0 => by
  obtain ⟨h1, cell, h2, h3, h4, h5, h6, h7⟩ := h.1 q h0
  exact ⟨va_Z.kept h1 hq, cell, by rw [hq q.1 (Array.getElem?_eq_some_iff.mp h2).1 h7]; exact h2, h3, h4, h5, h6, h7⟩, h.2⟩
theorem zAll.narrow {zs : Zs} {A B : Nat → Prop} {U : State} {H : Heap} (h : zAll zs A U H) (hAB : ∀ q, B q → A q) : zAll zs B U H := ⟨fun q h0 => by
  obtain ⟨h1, cell, h2, h3, h4, h5, h6, h7⟩ := h.1 q h0
  exact ⟨va_Z.narrow h1 hAB, cell, h2, h3, h4, h5, h6, fun z => h7 (hAB _ z)⟩, h.2⟩
abbrev Cx : Type := Program × Launch × Env × State × MethodId × Array Value × List Frame × Method × Code × (Nat → Prop) × (State → Prop)
/-- THE GOAL -/
def G (X : Cx) (R : Room) (cc : ByteArray) (nL : Nat) (own : String) (Ts : List Cond) (E : Ev) (zs : Zs) (cells slots : Nat) (ws : va_W) (lv : List (Nat × Value)) (pc : Nat) (st : List Value) : Prop :=
  match X with
  | (p, l, e, s, m, args, below, meth, c, A, Q) =>
    (p.tables.exec = Jvm.exec ∧ c.code = cc ∧ c.maxLocals = nL ∧ s.vm.findClass own = some m.cls ∧ ∀ w ∈ Ts, w.before args s = true) → (∀ q : Nat, s.heap.size ≤ q → A q) → va_K E.1 vwCl (tysE E) s → zAll zs A s s.heap →
    ∀ (H : Heap) (locs : List Loc) (ls : Array Slot), va_P E.1 vwCl ws H → va_D A ws → va_S A s.heap H locs → lv_has ls nL lv → W p l e R s m args below meth c H locs cells slots Q (F0 m pc ls st)
section GROWS
variable {X : Cx} {R : Room} {cc : ByteArray} {nL : Nat} {own : String} {Ts : List Cond} {E : Ev} {zs : Zs} {cells slots : Nat} {ws : va_W} {lv : List (Nat × Value)} {pc : Nat} {st : List Value}

theorem g_iconst {n : Int} (hdg : decode cc pc = .ok (.iconst n, 1)) (kk : G X R cc nL own Ts E zs cells slots ws lv (pc + 1) (.int (iI n) :: st)) : G X R cc nL own Ts E zs cells slots ws lv pc (st) := by
  obtain ⟨p, l, e, s, m, args, below, meth, c, A, Q⟩ := X
  intro hF hA hK hZ H locs ls hP hD hS hl
  exact lv_iconst hF.1 hF.2.1 hdg rfl (kk hF hA hK hZ H locs ls hP hD hS hl)

theorem g_bipush {n : Int} (hdg : decode cc pc = .ok (.bipush n, 2)) (hv : (Int8.ofInt n).toInt32 = iI n) (kk : G X R cc nL own Ts E zs cells slots ws lv (pc + 2) (.int (iI n) :: st)) : G X R cc nL own Ts E zs cells slots ws lv pc (st) := by
  obtain ⟨p, l, e, s, m, args, below, meth, c, A, Q⟩ := X
  intro hF hA hK hZ H locs ls hP hD hS hl
  exact lv_bipush hF.1 hF.2.1 hdg hv (kk hF hA hK hZ H locs ls hP hD hS hl)

theorem g_sipush {n : Int} (hdg : decode cc pc = .ok (.sipush n, 3)) (hv : (Int16.ofInt n).toInt32 = iI n) (kk : G X R cc nL own Ts E zs cells slots ws lv (pc + 3) (.int (iI n) :: st)) : G X R cc nL own Ts E zs cells slots ws lv pc (st) := by
  obtain ⟨p, l, e, s, m, args, below, meth, c, A, Q⟩ := X
  intro hF hA hK hZ H locs ls hP hD hS hl
  exact lv_sipush hF.1 hF.2.1 hdg hv (kk hF hA hK hZ H locs ls hP hD hS hl)

theorem g_ldc {index : Nat} {v : Int32} (n : Int) (hw : Cond.constant own index v ∈ Ts) (hdg : decode cc pc = .ok (.ldc index, 2)) (hv : v = iI n) (kk : G X R cc nL own Ts E zs cells slots ws lv (pc + 2) (.int (iI n) :: st)) : G X R cc nL own Ts E zs cells slots ws lv pc (st) := by
  obtain ⟨p, l, e, s, m, args, below, meth, c, A, Q⟩ := X
  intro hF hA hK hZ H locs ls hP hD hS hl
  subst hv
  exact lv_ldc hF.1 hF.2.1 hF.2.2.2.1 (hF.2.2.2.2 _ hw) hdg (kk hF hA hK hZ H locs ls hP hD hS hl)

theorem g_null (hdg : decode cc pc = .ok (.aconst_null, 1)) (kk : G X R cc nL own Ts E zs cells slots ws lv (pc + 1) (.null :: st)) : G X R cc nL own Ts E zs cells slots ws lv pc (st) := by
  obtain ⟨p, l, e, s, m, args, below, meth, c, A, Q⟩ := X
  intro hF hA hK hZ H locs ls hP hD hS hl
  exact lv_null hF.1 hF.2.1 hdg (kk hF hA hK hZ H locs ls hP hD hS hl)

theorem g_iload_n {k : Fin 4} {i : Nat} {x : Int32} (j : Nat) (hdg : decode cc pc = .ok (.iload_n k, 1)) (hi : (k : Nat) = i) (hj : lv[j]? = some (i, .int x)) (kk : G X R cc nL own Ts E zs cells slots ws lv (pc + 1) (.int x :: st)) : G X R cc nL own Ts E zs cells slots ws lv pc (st) := by
  obtain ⟨p, l, e, s, m, args, below, meth, c, A, Q⟩ := X
  intro hF hA hK hZ H locs ls hP hD hS hl
  exact lv_iload_n hF.1 hF.2.1 hdg hi (lv_at hl j hj) (kk hF hA hK hZ H locs ls hP hD hS hl)

theorem g_iload {i : Nat} {x : Int32} (j : Nat) (hdg : decode cc pc = .ok (.iload i, 2)) (hj : lv[j]? = some (i, .int x)) (kk : G X R cc nL own Ts E zs cells slots ws lv (pc + 2) (.int x :: st)) : G X R cc nL own Ts E zs cells slots ws lv pc (st) := by
  obtain ⟨p, l, e, s, m, args, below, meth, c, A, Q⟩ := X
  intro hF hA hK hZ H locs ls hP hD hS hl
  exact lv_iload hF.1 hF.2.1 hdg (lv_at hl j hj) (kk hF hA hK hZ H locs ls hP hD hS hl)

theorem g_aload_n {k : Fin 4} {i : Nat} {x : Nat} (j : Nat) (hdg : decode cc pc = .ok (.aload_n k, 1)) (hi : (k : Nat) = i) (hj : lv[j]? = some (i, .ref x)) (kk : G X R cc nL own Ts E zs cells slots ws lv (pc + 1) (.ref x :: st)) : G X R cc nL own Ts E zs cells slots ws lv pc (st) := by
  obtain ⟨p, l, e, s, m, args, below, meth, c, A, Q⟩ := X
  intro hF hA hK hZ H locs ls hP hD hS hl
  exact lv_aload_n hF.1 hF.2.1 hdg hi (lv_at hl j hj) (kk hF hA hK hZ H locs ls hP hD hS hl)

theorem g_aload {i : Nat} {x : Nat} (j : Nat) (hdg : decode cc pc = .ok (.aload i, 2)) (hj : lv[j]? = some (i, .ref x)) (kk : G X R cc nL own Ts E zs cells slots ws lv (pc + 2) (.ref x :: st)) : G X R cc nL own Ts E zs cells slots ws lv pc (st) := by
  obtain ⟨p, l, e, s, m, args, below, meth, c, A, Q⟩ := X
  intro hF hA hK hZ H locs ls hP hD hS hl
  exact lv_aload hF.1 hF.2.1 hdg (lv_at hl j hj) (kk hF hA hK hZ H locs ls hP hD hS hl)

theorem g_aload_nN {k : Fin 4} {i : Nat} (j : Nat) (hdg : decode cc pc = .ok (.aload_n k, 1)) (hi : (k : Nat) = i) (hj : lv[j]? = some (i, .null)) (kk : G X R cc nL own Ts E zs cells slots ws lv (pc + 1) (.null :: st)) : G X R cc nL own Ts E zs cells slots ws lv pc (st) := by
  obtain ⟨p, l, e, s, m, args, below, meth, c, A, Q⟩ := X
  intro hF hA hK hZ H locs ls hP hD hS hl
  exact lv_aload_nN hF.1 hF.2.1 hdg hi (lv_at hl j hj) (kk hF hA hK hZ H locs ls hP hD hS hl)

theorem g_aloadN {i : Nat} (j : Nat) (hdg : decode cc pc = .ok (.aload i, 2)) (hj : lv[j]? = some (i, .null)) (kk : G X R cc nL own Ts E zs cells slots ws lv (pc + 2) (.null :: st)) : G X R cc nL own Ts E zs cells slots ws lv pc (st) := by
  obtain ⟨p, l, e, s, m, args, below, meth, c, A, Q⟩ := X
  intro hF hA hK hZ H locs ls hP hD hS hl
  exact lv_aloadN hF.1 hF.2.1 hdg (lv_at hl j hj) (kk hF hA hK hZ H locs ls hP hD hS hl)

theorem g_istore_n {k : Fin 4} {i : Nat} {x : Int32} {lv1 : List (Nat × Value)} (hdg : decode cc pc = .ok (.istore_n k, 1)) (hi : (k : Nat) = i) (hn : i < nL) (hlv : (i, Value.int x) :: lv.filter (fun q => !(q.1 == i) && !(q.1 + 1 == i && q.2.category == 2)) = lv1) (kk : G X R cc nL own Ts E zs cells slots ws lv1 (pc + 1) (st)) : G X R cc nL own Ts E zs cells slots ws lv pc (.int x :: st) := by
  obtain ⟨p, l, e, s, m, args, below, meth, c, A, Q⟩ := X
  intro hF hA hK hZ H locs ls hP hD hS hl
  exact lv_istore_n hF.1 hF.2.1 hdg hi hl hn hlv (fun ls1 hl1 => kk hF hA hK hZ H locs ls1 hP hD hS hl1)

theorem g_istore {i : Nat} {x : Int32} {lv1 : List (Nat × Value)} (hdg : decode cc pc = .ok (.istore i, 2)) (hn : i < nL) (hlv : (i, Value.int x) :: lv.filter (fun q => !(q.1 == i) && !(q.1 + 1 == i && q.2.category == 2)) = lv1) (kk : G X R cc nL own Ts E zs cells slots ws lv1 (pc + 2) (st)) : G X R cc nL own Ts E zs cells slots ws lv pc (.int x :: st) := by
  obtain ⟨p, l, e, s, m, args, below, meth, c, A, Q⟩ := X
  intro hF hA hK hZ H locs ls hP hD hS hl
  exact lv_istore hF.1 hF.2.1 hdg hl hn hlv (fun ls1 hl1 => kk hF hA hK hZ H locs ls1 hP hD hS hl1)

theorem g_astore_n {k : Fin 4} {i : Nat} {x : Nat} {lv1 : List (Nat × Value)} (hdg : decode cc pc = .ok (.astore_n k, 1)) (hi : (k : Nat) = i) (hn : i < nL) (hlv : (i, Value.ref x) :: lv.filter (fun q => !(q.1 == i) && !(q.1 + 1 == i && q.2.category == 2)) = lv1) (kk : G X R cc nL own Ts E zs cells slots ws lv1 (pc + 1) (st)) : G X R cc nL own Ts E zs cells slots ws lv pc (.ref x :: st) := by
  obtain ⟨p, l, e, s, m, args, below, meth, c, A, Q⟩ := X
  intro hF hA hK hZ H locs ls hP hD hS hl
  exact lv_astore_n hF.1 hF.2.1 hdg hi hl hn hlv (fun ls1 hl1 => kk hF hA hK hZ H locs ls1 hP hD hS hl1)

theorem g_astore {i : Nat} {x : Nat} {lv1 : List (Nat × Value)} (hdg : decode cc pc = .ok (.astore i, 2)) (hn : i < nL) (hlv : (i, Value.ref x) :: lv.filter (fun q => !(q.1 == i) && !(q.1 + 1 == i && q.2.category == 2)) = lv1) (kk : G X R cc nL own Ts E zs cells slots ws lv1 (pc + 2) (st)) : G X R cc nL own Ts E zs cells slots ws lv pc (.ref x :: st) := by
  obtain ⟨p, l, e, s, m, args, below, meth, c, A, Q⟩ := X
  intro hF hA hK hZ H locs ls hP hD hS hl
  exact lv_astore hF.1 hF.2.1 hdg hl hn hlv (fun ls1 hl1 => kk hF hA hK hZ H locs ls1 hP hD hS hl1)

theorem g_astore_nN {k : Fin 4} {i : Nat} {lv1 : List (Nat × Value)} (hdg : decode cc pc = .ok (.astore_n k, 1)) (hi : (k : Nat) = i) (hn : i < nL) (hlv : (i, Value.null) :: lv.filter (fun q => !(q.1 == i) && !(q.1 + 1 == i && q.2.category == 2)) = lv1) (kk : G X R cc nL own Ts E zs cells slots ws lv1 (pc + 1) (st)) : G X R cc nL own Ts E zs cells slots ws lv pc (.null :: st) := by
  obtain ⟨p, l, e, s, m, args, below, meth, c, A, Q⟩ := X
  intro hF hA hK hZ H locs ls hP hD hS hl
  exact lv_astore_nN hF.1 hF.2.1 hdg hi hl hn hlv (fun ls1 hl1 => kk hF hA hK hZ H locs ls1 hP hD hS hl1)

theorem g_astoreN {i : Nat} {lv1 : List (Nat × Value)} (hdg : decode cc pc = .ok (.astore i, 2)) (hn : i < nL) (hlv : (i, Value.null) :: lv.filter (fun q => !(q.1 == i) && !(q.1 + 1 == i && q.2.category == 2)) = lv1) (kk : G X R cc nL own Ts E zs cells slots ws lv1 (pc + 2) (st)) : G X R cc nL own Ts E zs cells slots ws lv pc (.null :: st) := by
  obtain ⟨p, l, e, s, m, args, below, meth, c, A, Q⟩ := X
  intro hF hA hK hZ H locs ls hP hD hS hl
  exact lv_astoreN hF.1 hF.2.1 hdg hl hn hlv (fun ls1 hl1 => kk hF hA hK hZ H locs ls1 hP hD hS hl1)

theorem g_iinc {i : Nat} {n x : Int} {lv1 : List (Nat × Value)} (j : Nat) (hdg : decode cc pc = .ok (.iinc i n, 3)) (hj : lv[j]? = some (i, .int (iI x))) (hn : i < nL) (hlv : (i, Value.int (iI (x + n))) :: lv.filter (fun q => !(q.1 == i) && !(q.1 + 1 == i && q.2.category == 2)) = lv1) (kk : G X R cc nL own Ts E zs cells slots ws lv1 (pc + 3) (st)) : G X R cc nL own Ts E zs cells slots ws lv pc (st) := by
  obtain ⟨p, l, e, s, m, args, below, meth, c, A, Q⟩ := X
  intro hF hA hK hZ H locs ls hP hD hS hl
  exact lv_iinc hF.1 hF.2.1 hdg hl hj (iI_add x n) hn hlv (fun ls1 hl1 => kk hF hA hK hZ H locs ls1 hP hD hS hl1)

theorem g_iadd {x y : Int} (hdg : decode cc pc = .ok (.iadd, 1)) (kk : G X R cc nL own Ts E zs cells slots ws lv (pc + 1) (.int (iI (x + y)) :: st)) : G X R cc nL own Ts E zs cells slots ws lv pc (.int (iI y) :: .int (iI x) :: st) := by
  obtain ⟨p, l, e, s, m, args, below, meth, c, A, Q⟩ := X
  intro hF hA hK hZ H locs ls hP hD hS hl
  exact lv_iadd hF.1 hF.2.1 hdg (by rw [iI_add]; exact kk hF hA hK hZ H locs ls hP hD hS hl)

theorem g_isub {x y : Int} (hdg : decode cc pc = .ok (.isub, 1)) (kk : G X R cc nL own Ts E zs cells slots ws lv (pc + 1) (.int (iI (x - y)) :: st)) : G X R cc nL own Ts E zs cells slots ws lv pc (.int (iI y) :: .int (iI x) :: st) := by
  obtain ⟨p, l, e, s, m, args, below, meth, c, A, Q⟩ := X
  intro hF hA hK hZ H locs ls hP hD hS hl
  exact lv_isub hF.1 hF.2.1 hdg (by rw [iI_sub]; exact kk hF hA hK hZ H locs ls hP hD hS hl)

theorem g_imul {x y : Int} (hdg : decode cc pc = .ok (.imul, 1)) (kk : G X R cc nL own Ts E zs cells slots ws lv (pc + 1) (.int (iI (x * y)) :: st)) : G X R cc nL own Ts E zs cells slots ws lv pc (.int (iI y) :: .int (iI x) :: st) := by
  obtain ⟨p, l, e, s, m, args, below, meth, c, A, Q⟩ := X
  intro hF hA hK hZ H locs ls hP hD hS hl
  exact lv_imul hF.1 hF.2.1 hdg (by rw [iI_mul]; exact kk hF hA hK hZ H locs ls hP hD hS hl)

theorem g_ineg {x : Int} (hdg : decode cc pc = .ok (.ineg, 1)) (kk : G X R cc nL own Ts E zs cells slots ws lv (pc + 1) (.int (iI (-x)) :: st)) : G X R cc nL own Ts E zs cells slots ws lv pc (.int (iI x) :: st) := by
  obtain ⟨p, l, e, s, m, args, below, meth, c, A, Q⟩ := X
  intro hF hA hK hZ H locs ls hP hD hS hl
  exact lv_ineg hF.1 hF.2.1 hdg (by first | (rw [iI_neg]; exact kk hF hA hK hZ H locs ls hP hD hS hl) | (rw [show (0 : Int32) = iI 0 from rfl, iI_sub, Int.zero_sub]; exact kk hF hA hK hZ H locs ls hP hD hS hl))

theorem g_iand {x y : Int32} (hdg : decode cc pc = .ok (.iand, 1)) (kk : G X R cc nL own Ts E zs cells slots ws lv (pc + 1) (.int (x &&& y) :: st)) : G X R cc nL own Ts E zs cells slots ws lv pc (.int y :: .int x :: st) := by
  obtain ⟨p, l, e, s, m, args, below, meth, c, A, Q⟩ := X
  intro hF hA hK hZ H locs ls hP hD hS hl
  exact lv_iand hF.1 hF.2.1 hdg (kk hF hA hK hZ H locs ls hP hD hS hl)

theorem g_ior {x y : Int32} (hdg : decode cc pc = .ok (.ior, 1)) (kk : G X R cc nL own Ts E zs cells slots ws lv (pc + 1) (.int (x ||| y) :: st)) : G X R cc nL own Ts E zs cells slots ws lv pc (.int y :: .int x :: st) := by
  obtain ⟨p, l, e, s, m, args, below, meth, c, A, Q⟩ := X
  intro hF hA hK hZ H locs ls hP hD hS hl
  exact lv_ior hF.1 hF.2.1 hdg (kk hF hA hK hZ H locs ls hP hD hS hl)

theorem g_ixor {x y : Int32} (hdg : decode cc pc = .ok (.ixor, 1)) (kk : G X R cc nL own Ts E zs cells slots ws lv (pc + 1) (.int (x ^^^ y) :: st)) : G X R cc nL own Ts E zs cells slots ws lv pc (.int y :: .int x :: st) := by
  obtain ⟨p, l, e, s, m, args, below, meth, c, A, Q⟩ := X
  intro hF hA hK hZ H locs ls hP hD hS hl
  exact lv_ixor hF.1 hF.2.1 hdg (kk hF hA hK hZ H locs ls hP hD hS hl)

theorem g_ishl {x y : Int32} (hdg : decode cc pc = .ok (.ishl, 1)) (kk : G X R cc nL own Ts E zs cells slots ws lv (pc + 1) (.int (x <<< (y &&& 31)) :: st)) : G X R cc nL own Ts E zs cells slots ws lv pc (.int y :: .int x :: st) := by
  obtain ⟨p, l, e, s, m, args, below, meth, c, A, Q⟩ := X
  intro hF hA hK hZ H locs ls hP hD hS hl
  exact lv_ishl hF.1 hF.2.1 hdg (kk hF hA hK hZ H locs ls hP hD hS hl)

theorem g_ishr {x y : Int32} (hdg : decode cc pc = .ok (.ishr, 1)) (kk : G X R cc nL own Ts E zs cells slots ws lv (pc + 1) (.int (x >>> (y &&& 31)) :: st)) : G X R cc nL own Ts E zs cells slots ws lv pc (.int y :: .int x :: st) := by
  obtain ⟨p, l, e, s, m, args, below, meth, c, A, Q⟩ := X
  intro hF hA hK hZ H locs ls hP hD hS hl
  exact lv_ishr hF.1 hF.2.1 hdg (kk hF hA hK hZ H locs ls hP hD hS hl)

def rmI (x y : Int) : Int32 := iI x - iI x / iI y * iI y

theorem g_irem {x y : Int} (hdg : decode cc pc = .ok (.irem, 1)) (hy : R32 y ∧ y ≠ 0) (kk : G X R cc nL own Ts E zs cells slots ws lv (pc + 1) (.int (rmI x y) :: st)) : G X R cc nL own Ts E zs cells slots ws lv pc (.int (iI y) :: .int (iI x) :: st) := by
  obtain ⟨p, l, e, s, m, args, below, meth, c, A, Q⟩ := X
  intro hF hA hK hZ H locs ls hP hD hS hl
  exact lv_irem hF.1 hF.2.1 hdg (fun h => hy.2 ((iI_eq hy.1 R32_0).mp h)) (kk hF hA hK hZ H locs ls hP hD hS hl)

theorem div_I {x y : Int} (hx : 0 ≤ x ∧ x ≤ 2147483647) (hy : 0 < y ∧ y ≤ 2147483647) : iI x / iI y = iI (x / y) := by
  obtain ⟨a, rfl⟩ : ∃ a : Nat, x = (a : Int) := ⟨x.toNat, by omega⟩
  obtain ⟨b, rfl⟩ : ∃ b : Nat, y = (b : Int) := ⟨y.toNat, by omega⟩
  have h := pk_div (a := a) (d := b) (by omega) (by omega) (by omega)
  rw [nI_iI, nI_iI, nI_iI] at h
  rw [h]; rfl
theorem rm_I {x y : Int} (hx : 0 ≤ x ∧ x ≤ 2147483647) (hy : 0 < y ∧ y ≤ 2147483647) : rmI x y = iI (x % y) := by
  obtain ⟨a, rfl⟩ : ∃ a : Nat, x = (a : Int) := ⟨x.toNat, by omega⟩
  obtain ⟨b, rfl⟩ : ∃ b : Nat, y = (b : Int) := ⟨y.toNat, by omega⟩
  have h := pk_rem (a := a) (d := b) (by omega) (by omega) (by omega)
  rw [nI_iI, nI_iI, nI_iI] at h
  unfold rmI
  rw [h]; rfl

theorem g_idiv {x y : Int} (hdg : decode cc pc = .ok (.idiv, 1)) (hx : 0 ≤ x ∧ x ≤ 2147483647) (hy : 0 < y ∧ y ≤ 2147483647) (kk : G X R cc nL own Ts E zs cells slots ws lv (pc + 1) (.int (iI (x / y)) :: st)) : G X R cc nL own Ts E zs cells slots ws lv pc (.int (iI y) :: .int (iI x) :: st) := by
  obtain ⟨p, l, e, s, m, args, below, meth, c, A, Q⟩ := X
  intro hF hA hK hZ H locs ls hP hD hS hl
  exact lv_idiv hF.1 hF.2.1 hdg (fun h => by have := (iI_eq (by unfold R32; omega) R32_0).mp h; omega) (by rw [div_I hx hy]; exact kk hF hA hK hZ H locs ls hP hD hS hl)

theorem g_iremN {x y : Int} (hdg : decode cc pc = .ok (.irem, 1)) (hx : 0 ≤ x ∧ x ≤ 2147483647) (hy : 0 < y ∧ y ≤ 2147483647) (kk : G X R cc nL own Ts E zs cells slots ws lv (pc + 1) (.int (iI (x % y)) :: st)) : G X R cc nL own Ts E zs cells slots ws lv pc (.int (iI y) :: .int (iI x) :: st) := by
  obtain ⟨p, l, e, s, m, args, below, meth, c, A, Q⟩ := X
  intro hF hA hK hZ H locs ls hP hD hS hl
  exact lv_irem hF.1 hF.2.1 hdg (fun h => by have := (iI_eq (by unfold R32; omega) R32_0).mp h; omega) (by have h2 := rm_I hx hy; unfold rmI at h2; rw [h2]; exact kk hF hA hK hZ H locs ls hP hD hS hl)

theorem g_dup {va : Value} (hdg : decode cc pc = .ok (.dup, 1)) (hva : va.category = 1) (kk : G X R cc nL own Ts E zs cells slots ws lv (pc + 1) (va :: va :: st)) : G X R cc nL own Ts E zs cells slots ws lv pc (va :: st) := by
  obtain ⟨p, l, e, s, m, args, below, meth, c, A, Q⟩ := X
  intro hF hA hK hZ H locs ls hP hD hS hl
  exact lv_dup hF.1 hF.2.1 hdg hva (kk hF hA hK hZ H locs ls hP hD hS hl)

theorem g_pop {va : Value} (hdg : decode cc pc = .ok (.pop, 1)) (hva : va.category = 1) (kk : G X R cc nL own Ts E zs cells slots ws lv (pc + 1) (st)) : G X R cc nL own Ts E zs cells slots ws lv pc (va :: st) := by
  obtain ⟨p, l, e, s, m, args, below, meth, c, A, Q⟩ := X
  intro hF hA hK hZ H locs ls hP hD hS hl
  exact lv_pop hF.1 hF.2.1 hdg hva (kk hF hA hK hZ H locs ls hP hD hS hl)

theorem g_dup_x1 {va vb : Value} (hdg : decode cc pc = .ok (.dup_x1, 1)) (hva : va.category = 1) (hvb : vb.category = 1) (kk : G X R cc nL own Ts E zs cells slots ws lv (pc + 1) (va :: vb :: va :: st)) : G X R cc nL own Ts E zs cells slots ws lv pc (va :: vb :: st) := by
  obtain ⟨p, l, e, s, m, args, below, meth, c, A, Q⟩ := X
  intro hF hA hK hZ H locs ls hP hD hS hl
  exact lv_dup_x1 hF.1 hF.2.1 hdg hva hvb (kk hF hA hK hZ H locs ls hP hD hS hl)

theorem g_dup2 {va vb : Value} (hdg : decode cc pc = .ok (.dup2, 1)) (hva : va.category = 1) (hvb : vb.category = 1) (kk : G X R cc nL own Ts E zs cells slots ws lv (pc + 1) (va :: vb :: va :: vb :: st)) : G X R cc nL own Ts E zs cells slots ws lv pc (va :: vb :: st) := by
  obtain ⟨p, l, e, s, m, args, below, meth, c, A, Q⟩ := X
  intro hF hA hK hZ H locs ls hP hD hS hl
  exact lv_dup2_11 hF.1 hF.2.1 hdg hva hvb (kk hF hA hK hZ H locs ls hP hD hS hl)

theorem g_if_eq_r {x : Int32} {off : Int} {tgt : Nat} (hdg : decode cc pc = .ok (.ifCond .eq off, 3)) (ht : (pc : Int) + off = (tgt : Int)) (kt : x = 0 → G X R cc nL own Ts E zs cells slots ws lv (tgt) (st)) (kf : ¬ x = 0 → G X R cc nL own Ts E zs cells slots ws lv (pc + 3) (st)) : G X R cc nL own Ts E zs cells slots ws lv pc (.int x :: st) := by
  obtain ⟨p, l, e, s, m, args, below, meth, c, A, Q⟩ := X
  intro hF hA hK hZ H locs ls hP hD hS hl
  exact lv_if_eq hF.1 hF.2.1 hdg ht (fun h => kt h hF hA hK hZ H locs ls hP hD hS hl) (fun h => kf h hF hA hK hZ H locs ls hP hD hS hl)

theorem g_if_eq {x : Int} (hx : R32 x) {off : Int} {tgt : Nat} (hdg : decode cc pc = .ok (.ifCond .eq off, 3)) (ht : (pc : Int) + off = (tgt : Int)) (kt : x = 0 → G X R cc nL own Ts E zs cells slots ws lv (tgt) (st)) (kf : ¬ (x = 0) → G X R cc nL own Ts E zs cells slots ws lv (pc + 3) (st)) : G X R cc nL own Ts E zs cells slots ws lv pc (.int (iI x) :: st) := by
  obtain ⟨p, l, e, s, m, args, below, meth, c, A, Q⟩ := X
  intro hF hA hK hZ H locs ls hP hD hS hl
  exact lv_if_eq hF.1 hF.2.1 hdg ht (fun h => kt ((iI_eq hx R32_0).mp h) hF hA hK hZ H locs ls hP hD hS hl) (fun h => kf (fun q => h ((iI_eq hx R32_0).mpr q)) hF hA hK hZ H locs ls hP hD hS hl)

theorem g_icmp_eq {x y : Int} (hx : R32 x) (hy : R32 y) {off : Int} {tgt : Nat} (hdg : decode cc pc = .ok (.if_icmp .eq off, 3)) (ht : (pc : Int) + off = (tgt : Int)) (kt : x = y → G X R cc nL own Ts E zs cells slots ws lv (tgt) (st)) (kf : ¬ (x = y) → G X R cc nL own Ts E zs cells slots ws lv (pc + 3) (st)) : G X R cc nL own Ts E zs cells slots ws lv pc (.int (iI y) :: .int (iI x) :: st) := by
  obtain ⟨p, l, e, s, m, args, below, meth, c, A, Q⟩ := X
  intro hF hA hK hZ H locs ls hP hD hS hl
  exact lv_icmp_eq hF.1 hF.2.1 hdg ht (fun h => kt ((iI_eq hx hy).mp h) hF hA hK hZ H locs ls hP hD hS hl) (fun h => kf (fun q => h ((iI_eq hx hy).mpr q)) hF hA hK hZ H locs ls hP hD hS hl)

theorem g_if_ne_r {x : Int32} {off : Int} {tgt : Nat} (hdg : decode cc pc = .ok (.ifCond .ne off, 3)) (ht : (pc : Int) + off = (tgt : Int)) (kt : x = 0 → G X R cc nL own Ts E zs cells slots ws lv (pc + 3) (st)) (kf : ¬ x = 0 → G X R cc nL own Ts E zs cells slots ws lv (tgt) (st)) : G X R cc nL own Ts E zs cells slots ws lv pc (.int x :: st) := by
  obtain ⟨p, l, e, s, m, args, below, meth, c, A, Q⟩ := X
  intro hF hA hK hZ H locs ls hP hD hS hl
  exact lv_if_ne hF.1 hF.2.1 hdg ht (fun h => kf h hF hA hK hZ H locs ls hP hD hS hl) (fun h => kt h hF hA hK hZ H locs ls hP hD hS hl)

theorem g_if_ne {x : Int} (hx : R32 x) {off : Int} {tgt : Nat} (hdg : decode cc pc = .ok (.ifCond .ne off, 3)) (ht : (pc : Int) + off = (tgt : Int)) (kt : x = 0 → G X R cc nL own Ts E zs cells slots ws lv (pc + 3) (st)) (kf : ¬ (x = 0) → G X R cc nL own Ts E zs cells slots ws lv (tgt) (st)) : G X R cc nL own Ts E zs cells slots ws lv pc (.int (iI x) :: st) := by
  obtain ⟨p, l, e, s, m, args, below, meth, c, A, Q⟩ := X
  intro hF hA hK hZ H locs ls hP hD hS hl
  exact lv_if_ne hF.1 hF.2.1 hdg ht (fun h => kf (fun q => h ((iI_eq hx R32_0).mpr q)) hF hA hK hZ H locs ls hP hD hS hl) (fun h => kt ((iI_eq hx R32_0).mp h) hF hA hK hZ H locs ls hP hD hS hl)

theorem g_icmp_ne {x y : Int} (hx : R32 x) (hy : R32 y) {off : Int} {tgt : Nat} (hdg : decode cc pc = .ok (.if_icmp .ne off, 3)) (ht : (pc : Int) + off = (tgt : Int)) (kt : x = y → G X R cc nL own Ts E zs cells slots ws lv (pc + 3) (st)) (kf : ¬ (x = y) → G X R cc nL own Ts E zs cells slots ws lv (tgt) (st)) : G X R cc nL own Ts E zs cells slots ws lv pc (.int (iI y) :: .int (iI x) :: st) := by
  obtain ⟨p, l, e, s, m, args, below, meth, c, A, Q⟩ := X
  intro hF hA hK hZ H locs ls hP hD hS hl
  exact lv_icmp_ne hF.1 hF.2.1 hdg ht (fun h => kf (fun q => h ((iI_eq hx hy).mpr q)) hF hA hK hZ H locs ls hP hD hS hl) (fun h => kt ((iI_eq hx hy).mp h) hF hA hK hZ H locs ls hP hD hS hl)

theorem g_if_lt_r {x : Int32} {off : Int} {tgt : Nat} (hdg : decode cc pc = .ok (.ifCond .lt off, 3)) (ht : (pc : Int) + off = (tgt : Int)) (kt : x < 0 → G X R cc nL own Ts E zs cells slots ws lv (tgt) (st)) (kf : ¬ (x < 0) → G X R cc nL own Ts E zs cells slots ws lv (pc + 3) (st)) : G X R cc nL own Ts E zs cells slots ws lv pc (.int x :: st) := by
  obtain ⟨p, l, e, s, m, args, below, meth, c, A, Q⟩ := X
  intro hF hA hK hZ H locs ls hP hD hS hl
  exact lv_if_lt hF.1 hF.2.1 hdg ht (fun h => kt h hF hA hK hZ H locs ls hP hD hS hl) (fun h => kf h hF hA hK hZ H locs ls hP hD hS hl)

theorem g_if_lt {x : Int} (hx : R32 x) {off : Int} {tgt : Nat} (hdg : decode cc pc = .ok (.ifCond .lt off, 3)) (ht : (pc : Int) + off = (tgt : Int)) (kt : x < 0 → G X R cc nL own Ts E zs cells slots ws lv (tgt) (st)) (kf : ¬ (x < 0) → G X R cc nL own Ts E zs cells slots ws lv (pc + 3) (st)) : G X R cc nL own Ts E zs cells slots ws lv pc (.int (iI x) :: st) := by
  obtain ⟨p, l, e, s, m, args, below, meth, c, A, Q⟩ := X
  intro hF hA hK hZ H locs ls hP hD hS hl
  exact lv_if_lt hF.1 hF.2.1 hdg ht (fun h => kt ((iI_lt hx R32_0).mp h) hF hA hK hZ H locs ls hP hD hS hl) (fun h => kf (fun q => h ((iI_lt hx R32_0).mpr q)) hF hA hK hZ H locs ls hP hD hS hl)

theorem g_icmp_lt {x y : Int} (hx : R32 x) (hy : R32 y) {off : Int} {tgt : Nat} (hdg : decode cc pc = .ok (.if_icmp .lt off, 3)) (ht : (pc : Int) + off = (tgt : Int)) (kt : x < y → G X R cc nL own Ts E zs cells slots ws lv (tgt) (st)) (kf : ¬ (x < y) → G X R cc nL own Ts E zs cells slots ws lv (pc + 3) (st)) : G X R cc nL own Ts E zs cells slots ws lv pc (.int (iI y) :: .int (iI x) :: st) := by
  obtain ⟨p, l, e, s, m, args, below, meth, c, A, Q⟩ := X
  intro hF hA hK hZ H locs ls hP hD hS hl
  exact lv_icmp_lt hF.1 hF.2.1 hdg ht (fun h => kt ((iI_lt hx hy).mp h) hF hA hK hZ H locs ls hP hD hS hl) (fun h => kf (fun q => h ((iI_lt hx hy).mpr q)) hF hA hK hZ H locs ls hP hD hS hl)

theorem g_if_ge_r {x : Int32} {off : Int} {tgt : Nat} (hdg : decode cc pc = .ok (.ifCond .ge off, 3)) (ht : (pc : Int) + off = (tgt : Int)) (kt : 0 ≤ x → G X R cc nL own Ts E zs cells slots ws lv (tgt) (st)) (kf : ¬ (0 ≤ x) → G X R cc nL own Ts E zs cells slots ws lv (pc + 3) (st)) : G X R cc nL own Ts E zs cells slots ws lv pc (.int x :: st) := by
  obtain ⟨p, l, e, s, m, args, below, meth, c, A, Q⟩ := X
  intro hF hA hK hZ H locs ls hP hD hS hl
  exact lv_if_ge hF.1 hF.2.1 hdg ht (fun h => kt h hF hA hK hZ H locs ls hP hD hS hl) (fun h => kf h hF hA hK hZ H locs ls hP hD hS hl)

theorem g_if_ge {x : Int} (hx : R32 x) {off : Int} {tgt : Nat} (hdg : decode cc pc = .ok (.ifCond .ge off, 3)) (ht : (pc : Int) + off = (tgt : Int)) (kt : 0 ≤ x → G X R cc nL own Ts E zs cells slots ws lv (tgt) (st)) (kf : ¬ (0 ≤ x) → G X R cc nL own Ts E zs cells slots ws lv (pc + 3) (st)) : G X R cc nL own Ts E zs cells slots ws lv pc (.int (iI x) :: st) := by
  obtain ⟨p, l, e, s, m, args, below, meth, c, A, Q⟩ := X
  intro hF hA hK hZ H locs ls hP hD hS hl
  exact lv_if_ge hF.1 hF.2.1 hdg ht (fun h => kt ((iI_le R32_0 hx).mp h) hF hA hK hZ H locs ls hP hD hS hl) (fun h => kf (fun q => h ((iI_le R32_0 hx).mpr q)) hF hA hK hZ H locs ls hP hD hS hl)

theorem g_icmp_ge {x y : Int} (hx : R32 x) (hy : R32 y) {off : Int} {tgt : Nat} (hdg : decode cc pc = .ok (.if_icmp .ge off, 3)) (ht : (pc : Int) + off = (tgt : Int)) (kt : y ≤ x → G X R cc nL own Ts E zs cells slots ws lv (tgt) (st)) (kf : ¬ (y ≤ x) → G X R cc nL own Ts E zs cells slots ws lv (pc + 3) (st)) : G X R cc nL own Ts E zs cells slots ws lv pc (.int (iI y) :: .int (iI x) :: st) := by
  obtain ⟨p, l, e, s, m, args, below, meth, c, A, Q⟩ := X
  intro hF hA hK hZ H locs ls hP hD hS hl
  exact lv_icmp_ge hF.1 hF.2.1 hdg ht (fun h => kt ((iI_le hy hx).mp h) hF hA hK hZ H locs ls hP hD hS hl) (fun h => kf (fun q => h ((iI_le hy hx).mpr q)) hF hA hK hZ H locs ls hP hD hS hl)

theorem g_if_gt_r {x : Int32} {off : Int} {tgt : Nat} (hdg : decode cc pc = .ok (.ifCond .gt off, 3)) (ht : (pc : Int) + off = (tgt : Int)) (kt : 0 < x → G X R cc nL own Ts E zs cells slots ws lv (tgt) (st)) (kf : ¬ (0 < x) → G X R cc nL own Ts E zs cells slots ws lv (pc + 3) (st)) : G X R cc nL own Ts E zs cells slots ws lv pc (.int x :: st) := by
  obtain ⟨p, l, e, s, m, args, below, meth, c, A, Q⟩ := X
  intro hF hA hK hZ H locs ls hP hD hS hl
  exact lv_if_gt hF.1 hF.2.1 hdg ht (fun h => kt h hF hA hK hZ H locs ls hP hD hS hl) (fun h => kf h hF hA hK hZ H locs ls hP hD hS hl)

theorem g_if_gt {x : Int} (hx : R32 x) {off : Int} {tgt : Nat} (hdg : decode cc pc = .ok (.ifCond .gt off, 3)) (ht : (pc : Int) + off = (tgt : Int)) (kt : 0 < x → G X R cc nL own Ts E zs cells slots ws lv (tgt) (st)) (kf : ¬ (0 < x) → G X R cc nL own Ts E zs cells slots ws lv (pc + 3) (st)) : G X R cc nL own Ts E zs cells slots ws lv pc (.int (iI x) :: st) := by
  obtain ⟨p, l, e, s, m, args, below, meth, c, A, Q⟩ := X
  intro hF hA hK hZ H locs ls hP hD hS hl
  exact lv_if_gt hF.1 hF.2.1 hdg ht (fun h => kt ((iI_lt R32_0 hx).mp h) hF hA hK hZ H locs ls hP hD hS hl) (fun h => kf (fun q => h ((iI_lt R32_0 hx).mpr q)) hF hA hK hZ H locs ls hP hD hS hl)

theorem g_icmp_gt {x y : Int} (hx : R32 x) (hy : R32 y) {off : Int} {tgt : Nat} (hdg : decode cc pc = .ok (.if_icmp .gt off, 3)) (ht : (pc : Int) + off = (tgt : Int)) (kt : y < x → G X R cc nL own Ts E zs cells slots ws lv (tgt) (st)) (kf : ¬ (y < x) → G X R cc nL own Ts E zs cells slots ws lv (pc + 3) (st)) : G X R cc nL own Ts E zs cells slots ws lv pc (.int (iI y) :: .int (iI x) :: st) := by
  obtain ⟨p, l, e, s, m, args, below, meth, c, A, Q⟩ := X
  intro hF hA hK hZ H locs ls hP hD hS hl
  exact lv_icmp_gt hF.1 hF.2.1 hdg ht (fun h => kt ((iI_lt hy hx).mp h) hF hA hK hZ H locs ls hP hD hS hl) (fun h => kf (fun q => h ((iI_lt hy hx).mpr q)) hF hA hK hZ H locs ls hP hD hS hl)

theorem g_if_le_r {x : Int32} {off : Int} {tgt : Nat} (hdg : decode cc pc = .ok (.ifCond .le off, 3)) (ht : (pc : Int) + off = (tgt : Int)) (kt : x ≤ 0 → G X R cc nL own Ts E zs cells slots ws lv (tgt) (st)) (kf : ¬ (x ≤ 0) → G X R cc nL own Ts E zs cells slots ws lv (pc + 3) (st)) : G X R cc nL own Ts E zs cells slots ws lv pc (.int x :: st) := by
  obtain ⟨p, l, e, s, m, args, below, meth, c, A, Q⟩ := X
  intro hF hA hK hZ H locs ls hP hD hS hl
  exact lv_if_le hF.1 hF.2.1 hdg ht (fun h => kt h hF hA hK hZ H locs ls hP hD hS hl) (fun h => kf h hF hA hK hZ H locs ls hP hD hS hl)

theorem g_if_le {x : Int} (hx : R32 x) {off : Int} {tgt : Nat} (hdg : decode cc pc = .ok (.ifCond .le off, 3)) (ht : (pc : Int) + off = (tgt : Int)) (kt : x ≤ 0 → G X R cc nL own Ts E zs cells slots ws lv (tgt) (st)) (kf : ¬ (x ≤ 0) → G X R cc nL own Ts E zs cells slots ws lv (pc + 3) (st)) : G X R cc nL own Ts E zs cells slots ws lv pc (.int (iI x) :: st) := by
  obtain ⟨p, l, e, s, m, args, below, meth, c, A, Q⟩ := X
  intro hF hA hK hZ H locs ls hP hD hS hl
  exact lv_if_le hF.1 hF.2.1 hdg ht (fun h => kt ((iI_le hx R32_0).mp h) hF hA hK hZ H locs ls hP hD hS hl) (fun h => kf (fun q => h ((iI_le hx R32_0).mpr q)) hF hA hK hZ H locs ls hP hD hS hl)

theorem g_icmp_le {x y : Int} (hx : R32 x) (hy : R32 y) {off : Int} {tgt : Nat} (hdg : decode cc pc = .ok (.if_icmp .le off, 3)) (ht : (pc : Int) + off = (tgt : Int)) (kt : x ≤ y → G X R cc nL own Ts E zs cells slots ws lv (tgt) (st)) (kf : ¬ (x ≤ y) → G X R cc nL own Ts E zs cells slots ws lv (pc + 3) (st)) : G X R cc nL own Ts E zs cells slots ws lv pc (.int (iI y) :: .int (iI x) :: st) := by
  obtain ⟨p, l, e, s, m, args, below, meth, c, A, Q⟩ := X
  intro hF hA hK hZ H locs ls hP hD hS hl
  exact lv_icmp_le hF.1 hF.2.1 hdg ht (fun h => kt ((iI_le hx hy).mp h) hF hA hK hZ H locs ls hP hD hS hl) (fun h => kf (fun q => h ((iI_le hx hy).mpr q)) hF hA hK hZ H locs ls hP hD hS hl)

theorem g_goto {off : Int} {tgt : Nat} (hdg : decode cc pc = .ok (.goto off, 3)) (ht : (pc : Int) + off = (tgt : Int)) (kk : G X R cc nL own Ts E zs cells slots ws lv (tgt) (st)) : G X R cc nL own Ts E zs cells slots ws lv pc (st) := by
  obtain ⟨p, l, e, s, m, args, below, meth, c, A, Q⟩ := X
  intro hF hA hK hZ H locs ls hP hD hS hl
  exact lv_goto hF.1 hF.2.1 hdg ht (kk hF hA hK hZ H locs ls hP hD hS hl)

theorem g_ifnull {x : Nat} {off : Int} (hdg : decode cc pc = .ok (.ifnull off, 3)) (kk : G X R cc nL own Ts E zs cells slots ws lv (pc + 3) (st)) : G X R cc nL own Ts E zs cells slots ws lv pc (.ref x :: st) := by
  obtain ⟨p, l, e, s, m, args, below, meth, c, A, Q⟩ := X
  intro hF hA hK hZ H locs ls hP hD hS hl
  exact lv_ifnull hF.1 hF.2.1 hdg (kk hF hA hK hZ H locs ls hP hD hS hl)

theorem g_ifnullN {off : Int} {tgt : Nat} (hdg : decode cc pc = .ok (.ifnull off, 3)) (ht : (pc : Int) + off = (tgt : Int)) (kk : G X R cc nL own Ts E zs cells slots ws lv (tgt) (st)) : G X R cc nL own Ts E zs cells slots ws lv pc (.null :: st) := by
  obtain ⟨p, l, e, s, m, args, below, meth, c, A, Q⟩ := X
  intro hF hA hK hZ H locs ls hP hD hS hl
  exact lv_ifnullN hF.1 hF.2.1 hdg ht (kk hF hA hK hZ H locs ls hP hD hS hl)

theorem g_ifnonnull {x : Nat} {off : Int} {tgt : Nat} (hdg : decode cc pc = .ok (.ifnonnull off, 3)) (ht : (pc : Int) + off = (tgt : Int)) (kk : G X R cc nL own Ts E zs cells slots ws lv (tgt) (st)) : G X R cc nL own Ts E zs cells slots ws lv pc (.ref x :: st) := by
  obtain ⟨p, l, e, s, m, args, below, meth, c, A, Q⟩ := X
  intro hF hA hK hZ H locs ls hP hD hS hl
  exact lv_ifnonnull hF.1 hF.2.1 hdg ht (kk hF hA hK hZ H locs ls hP hD hS hl)

theorem g_ifnonnullN {off : Int} (hdg : decode cc pc = .ok (.ifnonnull off, 3)) (kk : G X R cc nL own Ts E zs cells slots ws lv (pc + 3) (st)) : G X R cc nL own Ts E zs cells slots ws lv pc (.null :: st) := by
  obtain ⟨p, l, e, s, m, args, below, meth, c, A, Q⟩ := X
  intro hF hA hK hZ H locs ls hP hD hS hl
  exact lv_ifnonnullN hF.1 hF.2.1 hdg (kk hF hA hK hZ H locs ls hP hD hS hl)

theorem g_tableIn {dflt lo hi : Int} {offs : Array Int} {len : Nat} {x : Int} {off : Int} {tgt : Nat} (hx : R32 x) (hdg : decode cc pc = .ok (.tableswitch dflt lo hi offs, len)) (h1 : lo ≤ x ∧ x ≤ hi) (ho : offs[(x - lo).toNat]? = some off) (ht : (pc : Int) + off = (tgt : Int)) (kk : G X R cc nL own Ts E zs cells slots ws lv (tgt) (st)) : G X R cc nL own Ts E zs cells slots ws lv pc (.int (iI x) :: st) := by
  obtain ⟨p, l, e, s, m, args, below, meth, c, A, Q⟩ := X
  intro hF hA hK hZ H locs ls hP hD hS hl
  exact lv_tableIn hF.1 hF.2.1 hdg (by rw [iI_toInt hx]; omega) (by rw [iI_toInt hx]; omega) (by rw [iI_toInt hx]; exact ho) ht (kk hF hA hK hZ H locs ls hP hD hS hl)

theorem g_tableOut {dflt lo hi : Int} {offs : Array Int} {len : Nat} {x : Int} {tgt : Nat} (hx : R32 x) (hdg : decode cc pc = .ok (.tableswitch dflt lo hi offs, len)) (h1 : x < lo ∨ hi < x) (ht : (pc : Int) + dflt = (tgt : Int)) (kk : G X R cc nL own Ts E zs cells slots ws lv (tgt) (st)) : G X R cc nL own Ts E zs cells slots ws lv pc (.int (iI x) :: st) := by
  obtain ⟨p, l, e, s, m, args, below, meth, c, A, Q⟩ := X
  intro hF hA hK hZ H locs ls hP hD hS hl
  exact lv_tableOut hF.1 hF.2.1 hdg (by rw [iI_toInt hx]; exact h1) ht (kk hF hA hK hZ H locs ls hP hD hS hl)

theorem g_as {ws1 : va_W} {lv1 : List (Nat × Value)} {st1 : List Value} (kk : G X R cc nL own Ts E zs cells slots ws1 lv1 pc st1) (h1 : ws1 = ws) (h2 : lv1 = lv) (h3 : st1 = st) : G X R cc nL own Ts E zs cells slots ws lv pc st := by subst h1; subst h2; subst h3; exact kk
theorem g_top {x y : Int32} (h : x = y) (kk : G X R cc nL own Ts E zs cells slots ws lv pc (.int y :: st)) : G X R cc nL own Ts E zs cells slots ws lv pc (.int x :: st) := by rw [h]; exact kk
theorem g_lv {lv1 : List (Nat × Value)} (ks : List Nat) (h : lv_pick lv ks = lv1) (kk : G X R cc nL own Ts E zs cells slots ws lv1 pc st) : G X R cc nL own Ts E zs cells slots ws lv pc st := by
  obtain ⟨p, l, e, s, m, args, below, meth, c, A, Q⟩ := X
  intro hF hA hK hZ H locs ls hP hD hS hl
  exact kk hF hA hK hZ H locs ls hP hD hS (lv_sub hl ks h)
theorem g_perm {ws1 : va_W} (is : List Nat) (h : is.filterMap (fun i => ws[i]?) = ws1) (hn : va_nd is = true) (hi : is.map (fun i => ws[i]?) = ws1.map some) (kk : G X R cc nL own Ts E zs cells slots ws1 lv pc st) : G X R cc nL own Ts E zs cells slots ws lv pc st := by
  obtain ⟨p, l, e, s, m, args, below, meth, c, A, Q⟩ := X
  intro hF hA hK hZ H locs ls hP hD hS hl
  exact kk hF hA hK hZ H locs ls (hP.sub is h) (hD.sub is hn hi) hS hl
theorem g_widen {k n : Nat} (h1 : cells ≤ k) (h2 : slots ≤ n) (kk : G X R cc nL own Ts E zs k n ws lv pc st) : G X R cc nL own Ts E zs cells slots ws lv pc st := by
  obtain ⟨p, l, e, s, m, args, below, meth, c, A, Q⟩ := X
  intro hF hA hK hZ H locs ls hP hD hS hl
  exact W.widen h1 h2 (kk hF hA hK hZ H locs ls hP hD hS hl)

theorem g_get {C : String} {T : u_T} {N ci index : Nat} {fs : List Value} {v : Value} {a : Nat} (q0 k : Nat) (hin : ∀ w ∈ u_ws C T N, w ∈ Ts) (hlink : Cond.fieldLink own index C (T k).2.1 (T k).2.2.1 ∈ Ts) (he : ws[q0]? = some (a, .inr (ci, fs))) (hc : vwCl[ci]? = some (C, T, N)) (hk : k < N) (hC : (T k).1 = C) (hv : fs[k]? = some v) (hdg : decode cc pc = .ok (.getfield index, 3)) (kk : G X R cc nL own Ts E zs cells slots ws lv (pc + 3) (v :: st)) : G X R cc nL own Ts E zs cells slots ws lv pc (.ref a :: st) := by
  obtain ⟨p, l, e, s, m, args, below, meth, c, A, Q⟩ := X
  intro hF hA hK hZ H locs ls hP hD hS hl
  exact va_get hF.1 hF.2.1 hF.2.2.2.2 hin hF.2.2.2.1 hK hP q0 he hc k hk (hF.2.2.2.2 _ hlink) (fun x h => by rw [hC] at h; exact h) hv hdg (kk hF hA hK hZ H locs ls hP hD hS hl)

theorem g_put {C : String} {T : u_T} {N ci index : Nat} {fs : List Value} {v : Value} {a : Nat} {ty : FieldType} {ws1 : va_W} (q0 k : Nat) (hin : ∀ w ∈ u_ws C T N, w ∈ Ts) (ty0 : Nat → FieldType) (hty : ∀ k, k < N → parseFieldDescriptor (T k).2.2.1 = some (ty0 k)) (hnm : ∀ a, a < N → ∀ b, b < N → a ≠ b → (T a).2.1 ≠ (T b).2.1) (hlink : Cond.fieldLink own index C (T k).2.1 (T k).2.2.1 ∈ Ts) (he : ws[q0]? = some (a, .inr (ci, fs))) (hc : vwCl[ci]? = some (C, T, N)) (hk : k < N) (hC : (T k).1 = C) (hd : parseFieldDescriptor (T k).2.2.1 = some ty) (hn : narrow ty v = v) (hfit : fits ty v = true) (hlen : k < fs.length) (hdg : decode cc pc = .ok (.putfield index, 3)) (hw : ws.set q0 (a, .inr (ci, fs.set k v)) = ws1) (hfin : (T k).2.2.2 = false) (kk : G X R cc nL own Ts E zs cells slots ws1 lv (pc + 3) (st)) : G X R cc nL own Ts E zs cells slots ws lv pc (v :: .ref a :: st) := by
  obtain ⟨p, l, e, s, m, args, below, meth, c, A, Q⟩ := X
  intro hF hA hK hZ H locs ls hP hD hS hl
  subst hw
  exact va_put hF.1 hF.2.1 hF.2.2.2.2 hin ty0 hty hnm hF.2.2.2.1 hK hP hD hS q0 he hc k hk (hF.2.2.2.2 _ hlink) (fun x h => by rw [hC] at h; exact h) hfin hd hn hfit hlen hdg (fun H1 locs1 hP1 hD1 hS1 => kk hF hA hK hZ H1 locs1 ls hP1 hD1 hS1 hl)

theorem g_putF {C : String} {T : u_T} {N ci index : Nat} {fs : List Value} {v : Value} {a : Nat} {ty : FieldType} {ws1 : va_W} (q0 k : Nat) (hin : ∀ w ∈ u_ws C T N, w ∈ Ts) (ty0 : Nat → FieldType) (hty : ∀ k, k < N → parseFieldDescriptor (T k).2.2.1 = some (ty0 k)) (hnm : ∀ a, a < N → ∀ b, b < N → a ≠ b → (T a).2.1 ≠ (T b).2.1) (hlink : Cond.fieldLink own index C (T k).2.1 (T k).2.2.1 ∈ Ts) (he : ws[q0]? = some (a, .inr (ci, fs))) (hc : vwCl[ci]? = some (C, T, N)) (hk : k < N) (hC : (T k).1 = C) (hd : parseFieldDescriptor (T k).2.2.1 = some ty) (hn : narrow ty v = v) (hfit : fits ty v = true) (hlen : k < fs.length) (hdg : decode cc pc = .ok (.putfield index, 3)) (hw : ws.set q0 (a, .inr (ci, fs.set k v)) = ws1) (hfin : (T k).2.2.2 = true) (hin2 : X.2.2.2.2.2.2.2.1.name = "<init>") (hown : C = own) (kk : G X R cc nL own Ts E zs cells slots ws1 lv (pc + 3) (st)) : G X R cc nL own Ts E zs cells slots ws lv pc (v :: .ref a :: st) := by
  obtain ⟨p, l, e, s, m, args, below, meth, c, A, Q⟩ := X
  intro hF hA hK hZ H locs ls hP hD hS hl
  subst hw
  exact va_putF hF.1 hF.2.1 hF.2.2.2.2 hin ty0 hty hnm hF.2.2.2.1 hK hP hD hS q0 he hc k hk (hF.2.2.2.2 _ hlink) (fun x h => by rw [hC] at h; exact h) hfin hin2 (by rw [hC]; exact hown) hd hn hfit hlen hdg (fun H1 locs1 hP1 hD1 hS1 => kk hF hA hK hZ H1 locs1 ls hP1 hD1 hS1 hl)

theorem g_iald {a n : Nat} {f : Int → Int} {i : Int} (q0 : Nat) (hdg : decode cc pc = .ok (.iaload, 1)) (ha : ws[q0]? = some (a, aI E n f)) (hn : (n : Int) ≤ 2147483647) (h0 : 0 ≤ i) (h1 : i < n) (kk : G X R cc nL own Ts E zs cells slots ws lv (pc + 1) (.int (iI (f i)) :: st)) : G X R cc nL own Ts E zs cells slots ws lv pc (.int (iI i) :: .ref a :: st) := by
  obtain ⟨p, l, e, s, m, args, below, meth, c, A, Q⟩ := X
  intro hF hA hK hZ H locs ls hP hD hS hl
  refine va_iald hF.1 hF.2.1 hK hP q0 0 ha rfl (iI_in h0 h1 hn) hdg ?_
  show W _ _ _ _ _ _ _ _ _ _ _ _ _ _ _ (F0 m (pc + 1) ls (.int (iI (f ((iI i).toNatClampNeg : Int))) :: st))
  rw [iI_cl h0 (by omega)]
  exact kk hF hA hK hZ H locs ls hP hD hS hl

theorem g_zald {a n : Nat} {f : Int → Int} {i : Int} (q0 : Nat) (hdg : decode cc pc = .ok (.baload, 1)) (ha : ws[q0]? = some (a, aZ E n f)) (hn : (n : Int) ≤ 2147483647) (h0 : 0 ≤ i) (h1 : i < n) (kk : G X R cc nL own Ts E zs cells slots ws lv (pc + 1) (.int (iI (f i)) :: st)) : G X R cc nL own Ts E zs cells slots ws lv pc (.int (iI i) :: .ref a :: st) := by
  obtain ⟨p, l, e, s, m, args, below, meth, c, A, Q⟩ := X
  intro hF hA hK hZ H locs ls hP hD hS hl
  refine va_zald hF.1 hF.2.1 hK hP q0 1 ha rfl (iI_in h0 h1 hn) hdg ?_
  show W _ _ _ _ _ _ _ _ _ _ _ _ _ _ _ (F0 m (pc + 1) ls (.int (iI (f ((iI i).toNatClampNeg : Int))) :: st))
  rw [iI_cl h0 (by omega)]
  exact kk hF hA hK hZ H locs ls hP hD hS hl

theorem g_aald {a n : Nat} {f : Int → Option Nat} {i : Int} (q0 : Nat) (hdg : decode cc pc = .ok (.aaload, 1)) (ha : ws[q0]? = some (a, aM E n f)) (hn : (n : Int) ≤ 2147483647) (h0 : 0 ≤ i) (h1 : i < n) (kk : G X R cc nL own Ts E zs cells slots ws lv (pc + 1) (va_rf (f i) :: st)) : G X R cc nL own Ts E zs cells slots ws lv pc (.int (iI i) :: .ref a :: st) := by
  obtain ⟨p, l, e, s, m, args, below, meth, c, A, Q⟩ := X
  intro hF hA hK hZ H locs ls hP hD hS hl
  refine va_aldq hF.1 hF.2.1 hK hP q0 2 ha rfl (iI_in h0 h1 hn) hdg ?_
  show W _ _ _ _ _ _ _ _ _ _ _ _ _ _ _ (F0 m (pc + 1) ls (va_rf (f ((iI i).toNatClampNeg : Int)) :: st))
  rw [iI_cl h0 (by omega)]
  exact kk hF hA hK hZ H locs ls hP hD hS hl

theorem g_iast {a n : Nat} {f : Int → Int} {i : Int} {v : Int} {ws1 : va_W} (q0 : Nat) (hdg : decode cc pc = .ok (.iastore, 1)) (ha : ws[q0]? = some (a, aI E n f)) (hw : ws.set q0 (a, aI E n (up f i v)) = ws1) (hn : (n : Int) ≤ 2147483647) (h0 : 0 ≤ i) (h1 : i < n) (kk : G X R cc nL own Ts E zs cells slots ws1 lv (pc + 1) (st)) : G X R cc nL own Ts E zs cells slots ws lv pc (.int (iI v) :: .int (iI i) :: .ref a :: st) := by
  obtain ⟨p, l, e, s, m, args, below, meth, c, A, Q⟩ := X
  intro hF hA hK hZ H locs ls hP hD hS hl
  subst hw
  refine va_iast hF.1 hF.2.1 hK hP hD hS q0 0 ha rfl (iI_in h0 h1 hn) hdg (fun H1 locs1 hP1 hD1 hS1 => ?_)
  rw [up_fun h0 (by omega)] at hP1 hD1
  exact kk hF hA hK hZ H1 locs1 ls hP1 hD1 hS1 hl

theorem nar_z {v : Int} (h : v = 0 ∨ v = 1) : vp_nar .boolean (iI v) = iI v := by rcases h with rfl | rfl <;> decide

theorem g_zast {a n : Nat} {f : Int → Int} {i : Int} {v : Int} {ws1 : va_W} (q0 : Nat) (hdg : decode cc pc = .ok (.bastore, 1)) (ha : ws[q0]? = some (a, aZ E n f)) (hv : v = 0 ∨ v = 1) (hw : ws.set q0 (a, aZ E n (up f i v)) = ws1) (hn : (n : Int) ≤ 2147483647) (h0 : 0 ≤ i) (h1 : i < n) (kk : G X R cc nL own Ts E zs cells slots ws1 lv (pc + 1) (st)) : G X R cc nL own Ts E zs cells slots ws lv pc (.int (iI v) :: .int (iI i) :: .ref a :: st) := by
  obtain ⟨p, l, e, s, m, args, below, meth, c, A, Q⟩ := X
  intro hF hA hK hZ H locs ls hP hD hS hl
  subst hw
  refine va_zast hF.1 hF.2.1 hK hP hD hS q0 1 ha rfl (iI_in h0 h1 hn) hdg (fun H1 locs1 hP1 hD1 hS1 => ?_)
  rw [nar_z hv, up_fun h0 (by omega)] at hP1 hD1
  exact kk hF hA hK hZ H1 locs1 ls hP1 hD1 hS1 hl

theorem g_aast {a n v : Nat} {f : Int → Option Nat} {i : Int} {vs : List Value} {ws1 : va_W} (q0 qk : Nat) (hdg : decode cc pc = .ok (.aastore, 1)) (ha : ws[q0]? = some (a, aM E n f)) (hv : ws[qk]? = some (v, .inr (3, vs))) (hw : ws.set q0 (a, aM E n (upq f i (some v))) = ws1) (hn : (n : Int) ≤ 2147483647) (h0 : 0 ≤ i) (h1 : i < n) (kk : G X R cc nL own Ts E zs cells slots ws1 lv (pc + 1) (st)) : G X R cc nL own Ts E zs cells slots ws lv pc (.ref v :: .int (iI i) :: .ref a :: st) := by
  obtain ⟨p, l, e, s, m, args, below, meth, c, A, Q⟩ := X
  intro hF hA hK hZ H locs ls hP hD hS hl
  subst hw
  refine va_astq (r := (RX3, TX3, 14)) hF.1 hF.2.1 hK hP hD hS q0 2 qk 3 ha rfl hv rfl (iI_in h0 h1 hn) hdg (fun H1 locs1 hP1 hD1 hS1 => ?_)
  rw [upq_fun h0 (by omega)] at hP1 hD1
  exact kk hF hA hK hZ H1 locs1 ls hP1 hD1 hS1 hl

theorem g_alen {a n : Nat} {f : Int → Int} (q0 : Nat) (hdg : decode cc pc = .ok (.arraylength, 1)) (ha : ws[q0]? = some (a, aI E n f)) (kk : G X R cc nL own Ts E zs cells slots ws lv (pc + 1) (.int (iI (n : Int)) :: st)) : G X R cc nL own Ts E zs cells slots ws lv pc (.ref a :: st) := by
  obtain ⟨p, l, e, s, m, args, below, meth, c, A, Q⟩ := X
  intro hF hA hK hZ H locs ls hP hD hS hl
  exact va_alen hF.1 hF.2.1 hK hP q0 0 ha rfl rfl hdg (kk hF hA hK hZ H locs ls hP hD hS hl)

theorem g_gets {t N index : Nat} {f : Int → Int} {C n : String} (hz : (t, C, n, N, f) ∈ zs) (hlink : Cond.fieldLink own index C n "[I" ∈ Ts) (hdg : decode cc pc = .ok (.getstatic index, 3)) (kk : G X R cc nL own Ts E zs cells slots ws lv (pc + 3) (.ref t :: st)) : G X R cc nL own Ts E zs cells slots ws lv pc (st) := by
  obtain ⟨p, l, e, s, m, args, below, meth, c, A, Q⟩ := X
  intro hF hA hK hZ H locs ls hP hD hS hl
  exact va_gets hF.1 hF.2.1 (hZ.1 _ hz).1 hS hF.2.2.2.1 (hF.2.2.2.2 _ hlink) (fun x h => h) hdg (kk hF hA hK hZ H locs ls hP hD hS hl)

theorem g_zs {t N : Nat} {f : Int → Int} {C n : String} {i : Int} (hz : (t, C, n, N, f) ∈ zs) (hdg : decode cc pc = .ok (.iaload, 1)) (hN : (N : Int) ≤ 2147483647) (h0 : 0 ≤ i) (h1 : i < N) (kk : G X R cc nL own Ts E zs cells slots ws lv (pc + 1) (.int (iI (f i)) :: st)) : G X R cc nL own Ts E zs cells slots ws lv pc (.int (iI i) :: .ref t :: st) := by
  obtain ⟨p, l, e, s, m, args, below, meth, c, A, Q⟩ := X
  intro hF hA hK hZ H locs ls hP hD hS hl
  obtain ⟨cell, c1, c2, c3, c4, c5, c6⟩ := (hZ.1 _ hz).2
  have hc0 : H[t]? = some cell := by rw [hS.2.1 t (Array.getElem?_eq_some_iff.mp c1).1 c6]; exact c1
  have hcl := iI_cl h0 (by omega)
  refine W.iald (v := .int (iI (f i))) hF.1 hF.2.1 hc0 c2 c3 (by rw [c4]; exact iI_in h0 h1 hN) (by rw [c5 _ (by show _ < N; omega)]; show some (Value.int (iI (f ((iI i).toNatClampNeg : Int)))) = _; rw [hcl]) rfl rfl hdg ?_
  exact kk hF hA hK hZ H locs ls hP hD hS hl

end GROWS
end LAYER
