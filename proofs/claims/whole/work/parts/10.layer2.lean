section LAYER2
def bI (p : Prop) [Decidable p] : Int := if p then 1 else 0

/-- contracts: an int (or a boolean), nothing, a reference or null comes back -/
def MI (y : MethodName) (w : List Cond) (rm : Room) (E : Ev) (zs : Zs) (mc ms : Nat) (av : List Value) (wc : va_W) (post : Int32 → va_W → Prop) : Prop :=
  ∀ (l : Launch) (sz : Nat), Met l y w rm (va_Pc av (fun U => U.heap.size = sz ∧ va_P E.1 vwCl wc U.heap ∧ va_K E.1 vwCl (tysE E) U ∧ va_D (fun _ => True) wc ∧ zAll zs (va_A wc sz) U U.heap)) (va_Qi post (fun u t => va_P E.1 vwCl u t.heap ∧ va_K E.1 vwCl (tysE E) t ∧ va_D (va_A wc sz) u) (va_A wc sz)) mc ms (va_A wc sz)
def MV (y : MethodName) (w : List Cond) (rm : Room) (E : Ev) (zs : Zs) (mc ms : Nat) (av : List Value) (wc : va_W) (post : va_W → Prop) : Prop :=
  ∀ (l : Launch) (sz : Nat), Met l y w rm (va_Pc av (fun U => U.heap.size = sz ∧ va_P E.1 vwCl wc U.heap ∧ va_K E.1 vwCl (tysE E) U ∧ va_D (fun _ => True) wc ∧ zAll zs (va_A wc sz) U U.heap)) (va_Qv post (fun u t => va_P E.1 vwCl u t.heap ∧ va_K E.1 vwCl (tysE E) t ∧ va_D (va_A wc sz) u) (va_A wc sz)) mc ms (va_A wc sz)
def MR (y : MethodName) (w : List Cond) (rm : Room) (E : Ev) (zs : Zs) (mc ms : Nat) (av : List Value) (wc : va_W) (post : Option Nat → va_W → Prop) : Prop :=
  ∀ (l : Launch) (sz : Nat), Met l y w rm (va_Pc av (fun U => U.heap.size = sz ∧ va_P E.1 vwCl wc U.heap ∧ va_K E.1 vwCl (tysE E) U ∧ va_D (fun _ => True) wc ∧ zAll zs (va_A wc sz) U U.heap)) (va_Qq post (fun u t => va_P E.1 vwCl u t.heap ∧ va_K E.1 vwCl (tysE E) t ∧ va_D (va_A wc sz) u) (va_A wc sz)) mc ms (va_A wc sz)

def RI (X : Cx) (R : Room) (cc : ByteArray) (E : Ev) (mc ms : Nat) (rt : FieldType) (post : Int32 → va_W → Prop) : Prop :=
  match X with
  | (p, l, e, s, m, args, below, meth, c, A, Q) => ∀ (H : Heap) (locs : List Loc) (ls : Array Slot) (pc : Nat) (v : Int32) (ws : va_W), p.tables.exec = Jvm.exec → c.code = cc → va_K E.1 vwCl (tysE E) s → va_P E.1 vwCl ws H → va_D A ws → va_S A s.heap H locs → decode cc pc = .ok (.ireturn, 1) → narrow rt (.int v) = .int v → post v ws → W p l e R s m args below meth c H locs mc ms Q (F0 m pc ls [.int v])

def RV (X : Cx) (R : Room) (cc : ByteArray) (E : Ev) (mc ms : Nat) (post : va_W → Prop) : Prop :=
  match X with
  | (p, l, e, s, m, args, below, meth, c, A, Q) => ∀ (H : Heap) (locs : List Loc) (ls : Array Slot) (pc : Nat)  (ws : va_W), p.tables.exec = Jvm.exec → c.code = cc → va_K E.1 vwCl (tysE E) s → va_P E.1 vwCl ws H → va_D A ws → va_S A s.heap H locs → decode cc pc = .ok (.return_, 1) → post ws → W p l e R s m args below meth c H locs mc ms Q (F0 m pc ls [])

def RR (X : Cx) (R : Room) (cc : ByteArray) (E : Ev) (mc ms : Nat) (post : Option Nat → va_W → Prop) : Prop :=
  match X with
  | (p, l, e, s, m, args, below, meth, c, A, Q) => ∀ (H : Heap) (locs : List Loc) (ls : Array Slot) (pc : Nat) (r : Option Nat) (ws : va_W), p.tables.exec = Jvm.exec → c.code = cc → va_K E.1 vwCl (tysE E) s → va_P E.1 vwCl ws H → va_D A ws → va_S A s.heap H locs → decode cc pc = .ok (.areturn, 1) → post r ws → W p l e R s m args below meth c H locs mc ms Q (F0 m pc ls [va_rf r])

section GRET
variable {X : Cx} {R : Room} {cc : ByteArray} {nL : Nat} {own : String} {Ts : List Cond} {E : Ev} {zs : Zs} {mc ms : Nat} {ws : va_W} {lv : List (Nat × Value)} {pc : Nat}
theorem g_iret {rt : FieldType} {post : Int32 → va_W → Prop} {v : Int32} (h : RI X R cc E mc ms rt post) (hdg : decode cc pc = .ok (.ireturn, 1)) (hn : narrow rt (.int v) = .int v) (hp : post v ws) : G X R cc nL own Ts E zs mc ms ws lv pc [.int v] := by
  obtain ⟨p, l, e, s, m, args, below, meth, c, A, Q⟩ := X
  intro hF hA hK hZ H locs ls hP hD hS hl
  exact h H locs ls pc v ws hF.1 hF.2.1 hK hP hD hS hdg hn hp
theorem g_vret {post : va_W → Prop} (h : RV X R cc E mc ms post) (hdg : decode cc pc = .ok (.return_, 1)) (hp : post ws) : G X R cc nL own Ts E zs mc ms ws lv pc [] := by
  obtain ⟨p, l, e, s, m, args, below, meth, c, A, Q⟩ := X
  intro hF hA hK hZ H locs ls hP hD hS hl
  exact h H locs ls pc ws hF.1 hF.2.1 hK hP hD hS hdg hp
theorem g_aret {post : Option Nat → va_W → Prop} {v : Value} (r : Option Nat) (h : RR X R cc E mc ms post) (hdg : decode cc pc = .ok (.areturn, 1)) (hv : va_rf r = v) (hp : post r ws) : G X R cc nL own Ts E zs mc ms ws lv pc [v] := by
  obtain ⟨p, l, e, s, m, args, below, meth, c, A, Q⟩ := X
  subst hv
  intro hF hA hK hZ H locs ls hP hD hS hl
  exact h H locs ls pc r ws hF.1 hF.2.1 hK hP hD hS hdg hp
end GRET

theorem MI.of {y : MethodName} {w w' : List Cond} {rm : Room} {E : Ev} {zs : Zs} {mc ms : Nat} {av : List Value} {wc : va_W} {post : Int32 → va_W → Prop} {cc : ByteArray} {maxL : Nat} {ret : Option FieldType} {rt : FieldType}
    {own : String} (hy : plainName y.cls = true) (hown0 : y.cls = own) (hw : w = Cond.code y cc maxL ret :: w') (hret : ret = some rt) (hlen : (lg_sl av).length ≤ maxL) (lv0 : List (Nat × Value)) (hlv : lv_args 0 av = lv0)
    (body : ∀ X : Cx, X.2.2.2.2.2.2.2.1.name = y.name → RI X rm cc E mc ms rt post → G X rm cc maxL own w E zs 0 0 wc lv0 0 []) : MI y w rm E zs mc ms av wc post := by
  subst hown0
  intro l sz
  refine Met.ofW (cc := cc) (maxL := maxL) (ret := ret) hy hw ?_
  intro p e s m args below meth c s₁ B hml hv
  obtain ⟨rfl, hsz, hP, hK, hD0, hZ0⟩ := hv
  have hx := B.exec
  have hb := B.bytes
  have hr := B.returns
  have hts := atoms_spec (ws := w) B.pre
  have hown : s.vm.findClass y.cls = some m.cls := findClass_of_methodNamed B.named
  have hlocks := B.notSynchronized
  have hin : meth.name = y.name := (name_of_methodNamed B.named B.method).1
  subst hsz
  have hD := hD0.self (sz := s.heap.size)
  have hA : ∀ q : Nat, s.heap.size ≤ q → va_A wc s.heap.size q := fun q h => Or.inr h
  have hl := lv_entry av (n := maxL) hlen
  rw [hlv] at hl
  rw [lg_entry_eq]
  have hb1 := body (p, l, e, s, m, av.toArray, below, meth, c, va_A wc s.heap.size, MQ below (va_Qi post (fun u t => va_P E.1 vwCl u t.heap ∧ va_K E.1 vwCl (tysE E) t ∧ va_D (va_A wc s.heap.size) u) (va_A wc s.heap.size)) av.toArray s mc ms (va_A wc s.heap.size)) hin ?_
  · exact hb1 ⟨hx, hb, hml, hown, hts⟩ hA hK hZ0 s.heap [] _ hP hD va_S.rf hl
  · intro H locs ls pc v ws hx1 hb1 hK1 hP1 hD1 hS1 hdg hn hp
    exact W.zret hx hb (by rw [hr, hret]) hn (fun t ht hW => ⟨⟨v, ws, rfl, hp, by rw [ht]; exact hP1, va_K.moved hW.alike hK1, hD1⟩, hS1.F ht⟩) hS1.2.2 hdg

theorem MV.of {y : MethodName} {w w' : List Cond} {rm : Room} {E : Ev} {zs : Zs} {mc ms : Nat} {av : List Value} {wc : va_W} {post : va_W → Prop} {cc : ByteArray} {maxL : Nat} {ret : Option FieldType} 
    {own : String} (hy : plainName y.cls = true) (hown0 : y.cls = own) (hw : w = Cond.code y cc maxL ret :: w') (hret : ret = none) (hlen : (lg_sl av).length ≤ maxL) (lv0 : List (Nat × Value)) (hlv : lv_args 0 av = lv0)
    (body : ∀ X : Cx, X.2.2.2.2.2.2.2.1.name = y.name → RV X rm cc E mc ms post → G X rm cc maxL own w E zs 0 0 wc lv0 0 []) : MV y w rm E zs mc ms av wc post := by
  subst hown0
  intro l sz
  refine Met.ofW (cc := cc) (maxL := maxL) (ret := ret) hy hw ?_
  intro p e s m args below meth c s₁ B hml hv
  obtain ⟨rfl, hsz, hP, hK, hD0, hZ0⟩ := hv
  have hx := B.exec
  have hb := B.bytes
  have hr := B.returns
  have hts := atoms_spec (ws := w) B.pre
  have hown : s.vm.findClass y.cls = some m.cls := findClass_of_methodNamed B.named
  have hlocks := B.notSynchronized
  have hin : meth.name = y.name := (name_of_methodNamed B.named B.method).1
  subst hsz
  have hD := hD0.self (sz := s.heap.size)
  have hA : ∀ q : Nat, s.heap.size ≤ q → va_A wc s.heap.size q := fun q h => Or.inr h
  have hl := lv_entry av (n := maxL) hlen
  rw [hlv] at hl
  rw [lg_entry_eq]
  have hb1 := body (p, l, e, s, m, av.toArray, below, meth, c, va_A wc s.heap.size, MQ below (va_Qv post (fun u t => va_P E.1 vwCl u t.heap ∧ va_K E.1 vwCl (tysE E) t ∧ va_D (va_A wc s.heap.size) u) (va_A wc s.heap.size)) av.toArray s mc ms (va_A wc s.heap.size)) hin ?_
  · exact hb1 ⟨hx, hb, hml, hown, hts⟩ hA hK hZ0 s.heap [] _ hP hD va_S.rf hl
  · intro H locs ls pc ws hx1 hb1 hK1 hP1 hD1 hS1 hdg hp
    exact W.vret hx hb (by rw [hr, hret]) (fun t ht hW => ⟨⟨ws, rfl, hp, by rw [ht]; exact hP1, va_K.moved hW.alike hK1, hD1⟩, hS1.F ht⟩) hS1.2.2 hdg

theorem MR.of {y : MethodName} {w w' : List Cond} {rm : Room} {E : Ev} {zs : Zs} {mc ms : Nat} {av : List Value} {wc : va_W} {post : Option Nat → va_W → Prop} {cc : ByteArray} {maxL : Nat} {ret : Option FieldType} {rt : String}
    {own : String} (hy : plainName y.cls = true) (hown0 : y.cls = own) (hw : w = Cond.code y cc maxL ret :: w') (hret : ret = some (.object rt)) (hlen : (lg_sl av).length ≤ maxL) (lv0 : List (Nat × Value)) (hlv : lv_args 0 av = lv0)
    (body : ∀ X : Cx, X.2.2.2.2.2.2.2.1.name = y.name → RR X rm cc E mc ms post → G X rm cc maxL own w E zs 0 0 wc lv0 0 []) : MR y w rm E zs mc ms av wc post := by
  subst hown0
  intro l sz
  refine Met.ofW (cc := cc) (maxL := maxL) (ret := ret) hy hw ?_
  intro p e s m args below meth c s₁ B hml hv
  obtain ⟨rfl, hsz, hP, hK, hD0, hZ0⟩ := hv
  have hx := B.exec
  have hb := B.bytes
  have hr := B.returns
  have hts := atoms_spec (ws := w) B.pre
  have hown : s.vm.findClass y.cls = some m.cls := findClass_of_methodNamed B.named
  have hlocks := B.notSynchronized
  have hin : meth.name = y.name := (name_of_methodNamed B.named B.method).1
  subst hsz
  have hD := hD0.self (sz := s.heap.size)
  have hA : ∀ q : Nat, s.heap.size ≤ q → va_A wc s.heap.size q := fun q h => Or.inr h
  have hl := lv_entry av (n := maxL) hlen
  rw [hlv] at hl
  rw [lg_entry_eq]
  have hb1 := body (p, l, e, s, m, av.toArray, below, meth, c, va_A wc s.heap.size, MQ below (va_Qq post (fun u t => va_P E.1 vwCl u t.heap ∧ va_K E.1 vwCl (tysE E) t ∧ va_D (va_A wc s.heap.size) u) (va_A wc s.heap.size)) av.toArray s mc ms (va_A wc s.heap.size)) hin ?_
  · exact hb1 ⟨hx, hb, hml, hown, hts⟩ hA hK hZ0 s.heap [] _ hP hD va_S.rf hl
  · intro H locs ls pc r ws hx1 hb1 hK1 hP1 hD1 hS1 hdg hp
    exact W.aret hx hb (by rw [hr, hret]) (Or.inl ⟨rt, rfl⟩) (by cases r with | none => exact Or.inl rfl | some a => exact Or.inr ⟨a, rfl⟩) (fun t ht hW => ⟨⟨r, ws, rfl, hp, by rw [ht]; exact hP1, va_K.moved hW.alike hK1, hD1⟩, hS1.F ht⟩) hS1.2.2 hdg

theorem blind {av : List Value} {sz : Nat} {E : Ev} {wc : va_W} {zs : Zs} {B : Nat → Prop} : FrameBlind (va_Pc av (fun U => U.heap.size = sz ∧ va_P E.1 vwCl wc U.heap ∧ va_K E.1 vwCl (tysE E) U ∧ va_D (fun _ => True) wc ∧ zAll zs B U U.heap)) := fun a U g mk q => by
  obtain ⟨q0, q1, q2, q3, q4, q5⟩ := q
  exact ⟨q0, q1, q2, va_K.moved (u := U) (U := U.calling g mk a) (Vm.Alike.refl U.vm) q3, q4, zAll.same (u := U) (U := U.calling g mk a) rfl (Vm.Alike.refl U.vm) q5⟩
section GCALL
variable {X : Cx} {R : Room} {cc : ByteArray} {nL : Nat} {own : String} {Ts : List Cond} {E : Ev} {zs : Zs} {cells slots : Nat} {ws : va_W} {lv : List (Nat × Value)} {pc : Nat} {st : List Value}

theorem g_callV_i {y : MethodName} {w w' : List Cond} {rm : Room} {zs1 : Zs} {mc ms : Nat} {As : List Value} {wc wr : va_W} {post : Int32 → va_W → Prop} {C : String} {index maxL : Nat} {bytes : ByteArray} {ret : Option FieldType} {n : Nat} {h0 : Nat} (rest : List Value)
    (hM : MI y w rm E zs1 mc ms (.ref h0 :: As) wc post) (isC isR : List Nat) (q0 : Nat) {ci : Nat} {fs : List Value} {T : u_T} {N : Nat} (he : wc[q0]? = some (h0, .inr (ci, fs))) (hc : vwCl[ci]? = some (C, T, N)) (hG : GoodIn Ts (wsV own index C y w)) (hw : w = Cond.code y bytes maxL ret :: w') (hd : y.cls = C ∧ y.cls ≠ "java/lang/invoke/MethodHandle" ∧ y.cls ≠ "java/lang/invoke/VarHandle" ∧ (parseMethodDescriptor y.desc).map (fun d => d.parameters.length) = some n) (hR : rm.frames + 1 ≤ R.frames ∧ 8 + (maxL + 11) + rm.locals ≤ R.locals) (hrc : rm.cells = mc) (hrs : rm.slots = ms) (hlen : As.length = n)
    (hC : isC.map (fun i => ws[i]?) = wc.map some) (hCs : isC.filterMap (fun i => ws[i]?) = wc) (hCn : va_nd isC = true) (hRr : isR.map (fun i => ws[i]?) = wr.map some) (hRn : va_nd isR = true) (hdis : ∀ i ∈ isR, i ∉ isC) (hzs : ∀ q ∈ zs1, q ∈ zs)
    (hdg : decode cc pc = .ok (.invokevirtual index, 3)) (hst : st = As.reverse ++ .ref h0 :: rest) (hW8 : (rest.map fun v => v.category).sum ≤ 8) (hcl : cells + mc ≤ R.cells ∧ slots + ms ≤ R.slots)
    (kk : ∀ (r : Int32) (u : va_W), post r u → G X R cc nL own Ts E zs (cells + mc) (slots + ms) (wr ++ u) lv (pc + 3) (.int r :: rest)) : G X R cc nL own Ts E zs cells slots ws lv pc st := by
  subst hst
  obtain ⟨p, l, e, s, m, args, below, meth, c, A, Q⟩ := X
  intro hF hA hK hZ H locs ls hP hD hS hl
  have hPc : va_P E.1 vwCl wc H := hP.sub isC hCs
  have hDc := hD.sub isC hCn hC
  have hFc := va_free (wc := wc) hD hS hA isC hC
  have hZc : zAll zs1 (va_A wc H.size) s H := ⟨fun q hq => (zAll.narrow (zAll.kept hZ hS.2.1) hFc).1 q (hzs q hq), hZ.2⟩
  refine va_calli (va_runV (As := As) (rest := rest) ⟨hF.1, hF.2.1, hF.2.2.1, hF.2.2.2.1, hF.2.2.2.2⟩ (hM l H.size) (cwV n hF.2.2.2.2 hG hw hrc hrs hd hR) ⟨blind, va_recv hK hPc hc he, fun U hU hW => ⟨rfl, by rw [hU], by rw [hU]; exact hPc, va_K.moved hW.alike hK, hDc.weaken (fun _ _ _ _ => trivial), by rw [hU]; exact zAll.warm hW hZc⟩⟩ rfl hlen hl.1 rfl (lv_room hW8) hdg hcl) hS (fun q _ h => hFc q h) hFc (fun r u t H1 locs1 ht hvm hw hB hz1 hk1 hS1 => ?_)
  obtain ⟨hP1, hK1, hD1⟩ := hB
  rw [ht] at hP1
  obtain ⟨hP2, hD2⟩ := va_join hP hD isC isR hC hRr hRn hdis hk1 hFc hP1 hD1
  exact kk r u hw hF hA hK hZ H1 locs1 ls hP2 hD2 hS1 hl

theorem g_callV_v {y : MethodName} {w w' : List Cond} {rm : Room} {zs1 : Zs} {mc ms : Nat} {As : List Value} {wc wr : va_W} {post : va_W → Prop} {C : String} {index maxL : Nat} {bytes : ByteArray} {ret : Option FieldType} {n : Nat} {h0 : Nat} (rest : List Value)
    (hM : MV y w rm E zs1 mc ms (.ref h0 :: As) wc post) (isC isR : List Nat) (q0 : Nat) {ci : Nat} {fs : List Value} {T : u_T} {N : Nat} (he : wc[q0]? = some (h0, .inr (ci, fs))) (hc : vwCl[ci]? = some (C, T, N)) (hG : GoodIn Ts (wsV own index C y w)) (hw : w = Cond.code y bytes maxL ret :: w') (hd : y.cls = C ∧ y.cls ≠ "java/lang/invoke/MethodHandle" ∧ y.cls ≠ "java/lang/invoke/VarHandle" ∧ (parseMethodDescriptor y.desc).map (fun d => d.parameters.length) = some n) (hR : rm.frames + 1 ≤ R.frames ∧ 8 + (maxL + 11) + rm.locals ≤ R.locals) (hrc : rm.cells = mc) (hrs : rm.slots = ms) (hlen : As.length = n)
    (hC : isC.map (fun i => ws[i]?) = wc.map some) (hCs : isC.filterMap (fun i => ws[i]?) = wc) (hCn : va_nd isC = true) (hRr : isR.map (fun i => ws[i]?) = wr.map some) (hRn : va_nd isR = true) (hdis : ∀ i ∈ isR, i ∉ isC) (hzs : ∀ q ∈ zs1, q ∈ zs)
    (hdg : decode cc pc = .ok (.invokevirtual index, 3)) (hst : st = As.reverse ++ .ref h0 :: rest) (hW8 : (rest.map fun v => v.category).sum ≤ 8) (hcl : cells + mc ≤ R.cells ∧ slots + ms ≤ R.slots)
    (kk : ∀ u : va_W, post u → G X R cc nL own Ts E zs (cells + mc) (slots + ms) (wr ++ u) lv (pc + 3) (rest)) : G X R cc nL own Ts E zs cells slots ws lv pc st := by
  subst hst
  obtain ⟨p, l, e, s, m, args, below, meth, c, A, Q⟩ := X
  intro hF hA hK hZ H locs ls hP hD hS hl
  have hPc : va_P E.1 vwCl wc H := hP.sub isC hCs
  have hDc := hD.sub isC hCn hC
  have hFc := va_free (wc := wc) hD hS hA isC hC
  have hZc : zAll zs1 (va_A wc H.size) s H := ⟨fun q hq => (zAll.narrow (zAll.kept hZ hS.2.1) hFc).1 q (hzs q hq), hZ.2⟩
  refine va_callv (va_runV (As := As) (rest := rest) ⟨hF.1, hF.2.1, hF.2.2.1, hF.2.2.2.1, hF.2.2.2.2⟩ (hM l H.size) (cwV n hF.2.2.2.2 hG hw hrc hrs hd hR) ⟨blind, va_recv hK hPc hc he, fun U hU hW => ⟨rfl, by rw [hU], by rw [hU]; exact hPc, va_K.moved hW.alike hK, hDc.weaken (fun _ _ _ _ => trivial), by rw [hU]; exact zAll.warm hW hZc⟩⟩ rfl hlen hl.1 rfl (lv_room hW8) hdg hcl) hS (fun q _ h => hFc q h) hFc (fun u t H1 locs1 ht hvm hw hB hz1 hk1 hS1 => ?_)
  obtain ⟨hP1, hK1, hD1⟩ := hB
  rw [ht] at hP1
  obtain ⟨hP2, hD2⟩ := va_join hP hD isC isR hC hRr hRn hdis hk1 hFc hP1 hD1
  exact kk u hw hF hA hK hZ H1 locs1 ls hP2 hD2 hS1 hl

theorem g_callV_q {y : MethodName} {w w' : List Cond} {rm : Room} {zs1 : Zs} {mc ms : Nat} {As : List Value} {wc wr : va_W} {post : Option Nat → va_W → Prop} {C : String} {index maxL : Nat} {bytes : ByteArray} {ret : Option FieldType} {n : Nat} {h0 : Nat} (rest : List Value)
    (hM : MR y w rm E zs1 mc ms (.ref h0 :: As) wc post) (isC isR : List Nat) (q0 : Nat) {ci : Nat} {fs : List Value} {T : u_T} {N : Nat} (he : wc[q0]? = some (h0, .inr (ci, fs))) (hc : vwCl[ci]? = some (C, T, N)) (hG : GoodIn Ts (wsV own index C y w)) (hw : w = Cond.code y bytes maxL ret :: w') (hd : y.cls = C ∧ y.cls ≠ "java/lang/invoke/MethodHandle" ∧ y.cls ≠ "java/lang/invoke/VarHandle" ∧ (parseMethodDescriptor y.desc).map (fun d => d.parameters.length) = some n) (hR : rm.frames + 1 ≤ R.frames ∧ 8 + (maxL + 11) + rm.locals ≤ R.locals) (hrc : rm.cells = mc) (hrs : rm.slots = ms) (hlen : As.length = n)
    (hC : isC.map (fun i => ws[i]?) = wc.map some) (hCs : isC.filterMap (fun i => ws[i]?) = wc) (hCn : va_nd isC = true) (hRr : isR.map (fun i => ws[i]?) = wr.map some) (hRn : va_nd isR = true) (hdis : ∀ i ∈ isR, i ∉ isC) (hzs : ∀ q ∈ zs1, q ∈ zs)
    (hdg : decode cc pc = .ok (.invokevirtual index, 3)) (hst : st = As.reverse ++ .ref h0 :: rest) (hW8 : (rest.map fun v => v.category).sum ≤ 8) (hcl : cells + mc ≤ R.cells ∧ slots + ms ≤ R.slots)
    (kk : ∀ (r : Option Nat) (u : va_W), post r u → G X R cc nL own Ts E zs (cells + mc) (slots + ms) (wr ++ u) lv (pc + 3) (va_rf r :: rest)) : G X R cc nL own Ts E zs cells slots ws lv pc st := by
  subst hst
  obtain ⟨p, l, e, s, m, args, below, meth, c, A, Q⟩ := X
  intro hF hA hK hZ H locs ls hP hD hS hl
  have hPc : va_P E.1 vwCl wc H := hP.sub isC hCs
  have hDc := hD.sub isC hCn hC
  have hFc := va_free (wc := wc) hD hS hA isC hC
  have hZc : zAll zs1 (va_A wc H.size) s H := ⟨fun q hq => (zAll.narrow (zAll.kept hZ hS.2.1) hFc).1 q (hzs q hq), hZ.2⟩
  refine va_callq (va_runV (As := As) (rest := rest) ⟨hF.1, hF.2.1, hF.2.2.1, hF.2.2.2.1, hF.2.2.2.2⟩ (hM l H.size) (cwV n hF.2.2.2.2 hG hw hrc hrs hd hR) ⟨blind, va_recv hK hPc hc he, fun U hU hW => ⟨rfl, by rw [hU], by rw [hU]; exact hPc, va_K.moved hW.alike hK, hDc.weaken (fun _ _ _ _ => trivial), by rw [hU]; exact zAll.warm hW hZc⟩⟩ rfl hlen hl.1 rfl (lv_room hW8) hdg hcl) hS (fun q _ h => hFc q h) hFc (fun r u t H1 locs1 ht hvm hw hB hz1 hk1 hS1 => ?_)
  obtain ⟨hP1, hK1, hD1⟩ := hB
  rw [ht] at hP1
  obtain ⟨hP2, hD2⟩ := va_join hP hD isC isR hC hRr hRn hdis hk1 hFc hP1 hD1
  exact kk r u hw hF hA hK hZ H1 locs1 ls hP2 hD2 hS1 hl

theorem g_callS_i {y : MethodName} {w w' : List Cond} {rm : Room} {zs1 : Zs} {mc ms : Nat} {As : List Value} {wc wr : va_W} {post : Int32 → va_W → Prop} {index maxL : Nat} {bytes : ByteArray} {ret : Option FieldType} {n : Nat} (rest : List Value)
    (hM : MI y w rm E zs1 mc ms As wc post) (isC isR : List Nat)  (hG : GoodIn Ts (wsS own index y w)) (hw : w = Cond.code y bytes maxL ret :: w') (hd : y.cls = own ∧ y.cls ≠ "java/lang/invoke/MethodHandle" ∧ y.cls ≠ "java/lang/invoke/VarHandle" ∧ (parseMethodDescriptor y.desc).map (fun d => d.parameters.length) = some n) (hR : rm.frames + 1 ≤ R.frames ∧ 8 + (maxL + 11) + rm.locals ≤ R.locals) (hrc : rm.cells = mc) (hrs : rm.slots = ms) (hlen : As.length = n)
    (hC : isC.map (fun i => ws[i]?) = wc.map some) (hCs : isC.filterMap (fun i => ws[i]?) = wc) (hCn : va_nd isC = true) (hRr : isR.map (fun i => ws[i]?) = wr.map some) (hRn : va_nd isR = true) (hdis : ∀ i ∈ isR, i ∉ isC) (hzs : ∀ q ∈ zs1, q ∈ zs)
    (hdg : decode cc pc = .ok (.invokestatic index, 3)) (hst : st = As.reverse ++ rest) (hW8 : (rest.map fun v => v.category).sum ≤ 8) (hcl : cells + mc ≤ R.cells ∧ slots + ms ≤ R.slots)
    (kk : ∀ (r : Int32) (u : va_W), post r u → G X R cc nL own Ts E zs (cells + mc) (slots + ms) (wr ++ u) lv (pc + 3) (.int r :: rest)) : G X R cc nL own Ts E zs cells slots ws lv pc st := by
  subst hst
  obtain ⟨p, l, e, s, m, args, below, meth, c, A, Q⟩ := X
  intro hF hA hK hZ H locs ls hP hD hS hl
  have hPc : va_P E.1 vwCl wc H := hP.sub isC hCs
  have hDc := hD.sub isC hCn hC
  have hFc := va_free (wc := wc) hD hS hA isC hC
  have hZc : zAll zs1 (va_A wc H.size) s H := ⟨fun q hq => (zAll.narrow (zAll.kept hZ hS.2.1) hFc).1 q (hzs q hq), hZ.2⟩
  refine va_calli (va_runS (As := As) (rest := rest) ⟨hF.1, hF.2.1, hF.2.2.1, hF.2.2.2.1, hF.2.2.2.2⟩ (hM l H.size) (cwS n hF.2.2.2.2 hG hw hrc hrs hd hR) ⟨blind, fun U hU hW => ⟨rfl, by rw [hU], by rw [hU]; exact hPc, va_K.moved hW.alike hK, hDc.weaken (fun _ _ _ _ => trivial), by rw [hU]; exact zAll.warm hW hZc⟩⟩ rfl hlen hl.1 rfl (lv_room hW8) hdg hcl) hS (fun q _ h => hFc q h) hFc (fun r u t H1 locs1 ht hvm hw hB hz1 hk1 hS1 => ?_)
  obtain ⟨hP1, hK1, hD1⟩ := hB
  rw [ht] at hP1
  obtain ⟨hP2, hD2⟩ := va_join hP hD isC isR hC hRr hRn hdis hk1 hFc hP1 hD1
  exact kk r u hw hF hA hK hZ H1 locs1 ls hP2 hD2 hS1 hl

theorem g_callO_i {y : MethodName} {w w' : List Cond} {rm : Room} {zs1 : Zs} {mc ms : Nat} {As : List Value} {wc wr : va_W} {post : Int32 → va_W → Prop} {index maxL : Nat} {bytes : ByteArray} {ret : Option FieldType} {n : Nat} (rest : List Value)
    (hM : MI y w rm E zs1 mc ms As wc post) (isC isR : List Nat)  (hG : GoodIn Ts (va_wsS own index y w)) (hw : w = Cond.code y bytes maxL ret :: w') (hd : y.cls ≠ "java/lang/invoke/MethodHandle" ∧ y.cls ≠ "java/lang/invoke/VarHandle" ∧ (parseMethodDescriptor y.desc).map (fun d => d.parameters.length) = some n) (hR : rm.frames + 1 ≤ R.frames ∧ 8 + (maxL + 11) + rm.locals ≤ R.locals) (hrc : rm.cells = mc) (hrs : rm.slots = ms) (hlen : As.length = n)
    (hC : isC.map (fun i => ws[i]?) = wc.map some) (hCs : isC.filterMap (fun i => ws[i]?) = wc) (hCn : va_nd isC = true) (hRr : isR.map (fun i => ws[i]?) = wr.map some) (hRn : va_nd isR = true) (hdis : ∀ i ∈ isR, i ∉ isC) (hzs : ∀ q ∈ zs1, q ∈ zs)
    (hdg : decode cc pc = .ok (.invokestatic index, 3)) (hst : st = As.reverse ++ rest) (hW8 : (rest.map fun v => v.category).sum ≤ 8) (hcl : cells + mc ≤ R.cells ∧ slots + ms ≤ R.slots)
    (kk : ∀ (r : Int32) (u : va_W), post r u → G X R cc nL own Ts E zs (cells + mc) (slots + ms) (wr ++ u) lv (pc + 3) (.int r :: rest)) : G X R cc nL own Ts E zs cells slots ws lv pc st := by
  subst hst
  obtain ⟨p, l, e, s, m, args, below, meth, c, A, Q⟩ := X
  intro hF hA hK hZ H locs ls hP hD hS hl
  have hPc : va_P E.1 vwCl wc H := hP.sub isC hCs
  have hDc := hD.sub isC hCn hC
  have hFc := va_free (wc := wc) hD hS hA isC hC
  have hZc : zAll zs1 (va_A wc H.size) s H := ⟨fun q hq => (zAll.narrow (zAll.kept hZ hS.2.1) hFc).1 q (hzs q hq), hZ.2⟩
  refine va_calli (va_runS (As := As) (rest := rest) ⟨hF.1, hF.2.1, hF.2.2.1, hF.2.2.2.1, hF.2.2.2.2⟩ (hM l H.size) (va_cwS n hF.2.2.2.2 hG hw hrc hrs hd hR) ⟨blind, fun U hU hW => ⟨rfl, by rw [hU], by rw [hU]; exact hPc, va_K.moved hW.alike hK, hDc.weaken (fun _ _ _ _ => trivial), by rw [hU]; exact zAll.warm hW hZc⟩⟩ rfl hlen hl.1 rfl (lv_room hW8) hdg hcl) hS (fun q _ h => hFc q h) hFc (fun r u t H1 locs1 ht hvm hw hB hz1 hk1 hS1 => ?_)
  obtain ⟨hP1, hK1, hD1⟩ := hB
  rw [ht] at hP1
  obtain ⟨hP2, hD2⟩ := va_join hP hD isC isR hC hRr hRn hdis hk1 hFc hP1 hD1
  exact kk r u hw hF hA hK hZ H1 locs1 ls hP2 hD2 hS1 hl

theorem g_callO_v {y : MethodName} {w w' : List Cond} {rm : Room} {zs1 : Zs} {mc ms : Nat} {As : List Value} {wc wr : va_W} {post : va_W → Prop} {index maxL : Nat} {bytes : ByteArray} {ret : Option FieldType} {n : Nat} (rest : List Value)
    (hM : MV y w rm E zs1 mc ms As wc post) (isC isR : List Nat)  (hG : GoodIn Ts (va_wsS own index y w)) (hw : w = Cond.code y bytes maxL ret :: w') (hd : y.cls ≠ "java/lang/invoke/MethodHandle" ∧ y.cls ≠ "java/lang/invoke/VarHandle" ∧ (parseMethodDescriptor y.desc).map (fun d => d.parameters.length) = some n) (hR : rm.frames + 1 ≤ R.frames ∧ 8 + (maxL + 11) + rm.locals ≤ R.locals) (hrc : rm.cells = mc) (hrs : rm.slots = ms) (hlen : As.length = n)
    (hC : isC.map (fun i => ws[i]?) = wc.map some) (hCs : isC.filterMap (fun i => ws[i]?) = wc) (hCn : va_nd isC = true) (hRr : isR.map (fun i => ws[i]?) = wr.map some) (hRn : va_nd isR = true) (hdis : ∀ i ∈ isR, i ∉ isC) (hzs : ∀ q ∈ zs1, q ∈ zs)
    (hdg : decode cc pc = .ok (.invokestatic index, 3)) (hst : st = As.reverse ++ rest) (hW8 : (rest.map fun v => v.category).sum ≤ 8) (hcl : cells + mc ≤ R.cells ∧ slots + ms ≤ R.slots)
    (kk : ∀ u : va_W, post u → G X R cc nL own Ts E zs (cells + mc) (slots + ms) (wr ++ u) lv (pc + 3) (rest)) : G X R cc nL own Ts E zs cells slots ws lv pc st := by
  subst hst
  obtain ⟨p, l, e, s, m, args, below, meth, c, A, Q⟩ := X
  intro hF hA hK hZ H locs ls hP hD hS hl
  have hPc : va_P E.1 vwCl wc H := hP.sub isC hCs
  have hDc := hD.sub isC hCn hC
  have hFc := va_free (wc := wc) hD hS hA isC hC
  have hZc : zAll zs1 (va_A wc H.size) s H := ⟨fun q hq => (zAll.narrow (zAll.kept hZ hS.2.1) hFc).1 q (hzs q hq), hZ.2⟩
  refine va_callv (va_runS (As := As) (rest := rest) ⟨hF.1, hF.2.1, hF.2.2.1, hF.2.2.2.1, hF.2.2.2.2⟩ (hM l H.size) (va_cwS n hF.2.2.2.2 hG hw hrc hrs hd hR) ⟨blind, fun U hU hW => ⟨rfl, by rw [hU], by rw [hU]; exact hPc, va_K.moved hW.alike hK, hDc.weaken (fun _ _ _ _ => trivial), by rw [hU]; exact zAll.warm hW hZc⟩⟩ rfl hlen hl.1 rfl (lv_room hW8) hdg hcl) hS (fun q _ h => hFc q h) hFc (fun u t H1 locs1 ht hvm hw hB hz1 hk1 hS1 => ?_)
  obtain ⟨hP1, hK1, hD1⟩ := hB
  rw [ht] at hP1
  obtain ⟨hP2, hD2⟩ := va_join hP hD isC isR hC hRr hRn hdis hk1 hFc hP1 hD1
  exact kk u hw hF hA hK hZ H1 locs1 ls hP2 hD2 hS1 hl

theorem g_callN_i {y : MethodName} {w w' : List Cond} {rm : Room} {zs1 : Zs} {mc ms : Nat} {As : List Value} {wc wr : va_W} {post : Int32 → va_W → Prop} {index maxL : Nat} {bytes : ByteArray} {ret : Option FieldType} {n : Nat} {host : String} (rest : List Value)
    (hM : MI y w rm E zs1 mc ms As wc post) (isC isR : List Nat)  (hG : GoodIn Ts w) (hnl : ∀ U, NWs U → va_Nw (.methodLinkNest own index y host) U) (hni : Cond.initialized y.cls ∈ Ts) (hns : Cond.static y ∈ Ts) (hw : w = Cond.code y bytes maxL ret :: w') (hd : y.cls ≠ "java/lang/invoke/MethodHandle" ∧ y.cls ≠ "java/lang/invoke/VarHandle" ∧ (parseMethodDescriptor y.desc).map (fun d => d.parameters.length) = some n) (hR : rm.frames + 1 ≤ R.frames ∧ 8 + (maxL + 11) + rm.locals ≤ R.locals) (hrc : rm.cells = mc) (hrs : rm.slots = ms) (hlen : As.length = n)
    (hC : isC.map (fun i => ws[i]?) = wc.map some) (hCs : isC.filterMap (fun i => ws[i]?) = wc) (hCn : va_nd isC = true) (hRr : isR.map (fun i => ws[i]?) = wr.map some) (hRn : va_nd isR = true) (hdis : ∀ i ∈ isR, i ∉ isC) (hzs : ∀ q ∈ zs1, q ∈ zs)
    (hdg : decode cc pc = .ok (.invokestatic index, 3)) (hst : st = As.reverse ++ rest) (hW8 : (rest.map fun v => v.category).sum ≤ 8) (hcl : cells + mc ≤ R.cells ∧ slots + ms ≤ R.slots)
    (kk : ∀ (r : Int32) (u : va_W), post r u → G X R cc nL own Ts E zs (cells + mc) (slots + ms) (wr ++ u) lv (pc + 3) (.int r :: rest)) : G X R cc nL own Ts E zs cells slots ws lv pc st := by
  subst hst
  obtain ⟨p, l, e, s, m, args, below, meth, c, A, Q⟩ := X
  intro hF hA hK hZ H locs ls hP hD hS hl
  have hPc : va_P E.1 vwCl wc H := hP.sub isC hCs
  have hDc := hD.sub isC hCn hC
  have hFc := va_free (wc := wc) hD hS hA isC hC
  have hZc : zAll zs1 (va_A wc H.size) s H := ⟨fun q hq => (zAll.narrow (zAll.kept hZ hS.2.1) hFc).1 q (hzs q hq), hZ.2⟩
  refine va_calli (va_runSN (As := As) (rest := rest) ⟨hF.1, hF.2.1, hF.2.2.1, hF.2.2.2.1, hF.2.2.2.2⟩ (hM l H.size) (⟨va_cnB n hF.2.2.2.2 hG hw hrc hrs (hnl _ hZ.2) (hF.2.2.2.2 _ hni) hd hR, hF.2.2.2.2 _ hns, trivial⟩) ⟨blind, fun U hU hW => ⟨rfl, by rw [hU], by rw [hU]; exact hPc, va_K.moved hW.alike hK, hDc.weaken (fun _ _ _ _ => trivial), by rw [hU]; exact zAll.warm hW hZc⟩⟩ rfl hlen hl.1 rfl (lv_room hW8) hdg hcl) hS (fun q _ h => hFc q h) hFc (fun r u t H1 locs1 ht hvm hw hB hz1 hk1 hS1 => ?_)
  obtain ⟨hP1, hK1, hD1⟩ := hB
  rw [ht] at hP1
  obtain ⟨hP2, hD2⟩ := va_join hP hD isC isR hC hRr hRn hdis hk1 hFc hP1 hD1
  exact kk r u hw hF hA hK hZ H1 locs1 ls hP2 hD2 hS1 hl

theorem g_callI_v {y : MethodName} {w w' : List Cond} {rm : Room} {zs1 : Zs} {mc ms : Nat} {As : List Value} {wc wr : va_W} {post : va_W → Prop} {index maxL : Nat} {bytes : ByteArray} {ret : Option FieldType} {n : Nat} {h0 : Nat} (rest : List Value)
    (hM : MV y w rm E zs1 mc ms (.ref h0 :: As) wc post) (isC isR : List Nat)  (hG : GoodIn Ts w) (hni : Cond.initialized y.cls ∈ Ts) (hnl : Cond.methodLink own index y ∈ Ts) (hns : Cond.instanceMethod y ∈ Ts) (hy1 : y.name = "<init>") (hw : w = Cond.code y bytes maxL none :: w') (hd : y.cls ≠ "java/lang/invoke/MethodHandle" ∧ y.cls ≠ "java/lang/invoke/VarHandle" ∧ (parseMethodDescriptor y.desc).map (fun d => d.parameters.length) = some n) (hR : rm.frames + 1 ≤ R.frames ∧ 8 + (maxL + 11) + rm.locals ≤ R.locals) (hrc : rm.cells = mc) (hrs : rm.slots = ms) (hlen : As.length = n)
    (hC : isC.map (fun i => ws[i]?) = wc.map some) (hCs : isC.filterMap (fun i => ws[i]?) = wc) (hCn : va_nd isC = true) (hRr : isR.map (fun i => ws[i]?) = wr.map some) (hRn : va_nd isR = true) (hdis : ∀ i ∈ isR, i ∉ isC) (hzs : ∀ q ∈ zs1, q ∈ zs)
    (hdg : decode cc pc = .ok (.invokespecial index, 3)) (hst : st = As.reverse ++ .ref h0 :: rest) (hW8 : (rest.map fun v => v.category).sum ≤ 8) (hcl : cells + mc ≤ R.cells ∧ slots + ms ≤ R.slots)
    (kk : ∀ u : va_W, post u → G X R cc nL own Ts E zs (cells + mc) (slots + ms) (wr ++ u) lv (pc + 3) (rest)) : G X R cc nL own Ts E zs cells slots ws lv pc st := by
  subst hst
  obtain ⟨p, l, e, s, m, args, below, meth, c, A, Q⟩ := X
  intro hF hA hK hZ H locs ls hP hD hS hl
  have hPc : va_P E.1 vwCl wc H := hP.sub isC hCs
  have hDc := hD.sub isC hCn hC
  have hFc := va_free (wc := wc) hD hS hA isC hC
  have hZc : zAll zs1 (va_A wc H.size) s H := ⟨fun q hq => (zAll.narrow (zAll.kept hZ hS.2.1) hFc).1 q (hzs q hq), hZ.2⟩
  refine va_callv (va_runI (As := As) (rest := rest) ⟨hF.1, hF.2.1, hF.2.2.1, hF.2.2.2.1, hF.2.2.2.2⟩ (hM l H.size) (cwI n hF.2.2.2.2 hG hw hrc hrs (hF.2.2.2.2 _ hni) (hF.2.2.2.2 _ hnl) (hF.2.2.2.2 _ hns) hy1 hd hR) ⟨blind, fun U hU hW => ⟨rfl, by rw [hU], by rw [hU]; exact hPc, va_K.moved hW.alike hK, hDc.weaken (fun _ _ _ _ => trivial), by rw [hU]; exact zAll.warm hW hZc⟩⟩ rfl hlen hl.1 rfl (lv_room hW8) hdg hcl) hS (fun q _ h => hFc q h) hFc (fun u t H1 locs1 ht hvm hw hB hz1 hk1 hS1 => ?_)
  obtain ⟨hP1, hK1, hD1⟩ := hB
  rw [ht] at hP1
  obtain ⟨hP2, hD2⟩ := va_join hP hD isC isR hC hRr hRn hdis hk1 hFc hP1 hD1
  exact kk u hw hF hA hK hZ H1 locs1 ls hP2 hD2 hS1 hl

end GCALL

section GMORE
variable {X : Cx} {R : Room} {cc : ByteArray} {nL : Nat} {own : String} {Ts : List Cond} {E : Ev} {zs : Zs} {cells slots : Nat} {ws : va_W} {lv : List (Nat × Value)} {pc : Nat} {st : List Value}
theorem max_I {x y : Int} (hx : R32 x) (hy : R32 y) : (if iI x < iI y then iI y else iI x) = iI (max x y) := by
  by_cases h : x < y
  · rw [if_pos ((iI_lt hx hy).mpr h), show max x y = y by omega]
  · rw [if_neg (fun q => h ((iI_lt hx hy).mp q)), show max x y = x by omega]
theorem min_I {x y : Int} (hx : R32 x) (hy : R32 y) : (if iI y < iI x then iI y else iI x) = iI (min x y) := by
  by_cases h : y < x
  · rw [if_pos ((iI_lt hy hx).mpr h), show min x y = y by omega]
  · rw [if_neg (fun q => h ((iI_lt hy hx).mp q)), show min x y = x by omega]
theorem abs_I {x : Int} (hx : R32 x) : (if 0 ≤ iI x then iI x else 0 - iI x) = iI (if 0 ≤ x then x else -x) := by
  rw [iI_0]
  by_cases h : 0 ≤ x
  · rw [if_pos ((iI_le R32_0 hx).mpr h), if_pos h]
  · rw [if_neg (fun q => h ((iI_le R32_0 hx).mp q)), if_neg h, iI_sub, Int.zero_sub]

theorem g_mmax {x y : Int} {index : Nat} (hx : R32 x) (hy : R32 y) (hlink : Cond.methodLink own index Lib.Math.max.name ∈ Ts) (hstat : Cond.static Lib.Math.max.name ∈ Ts) (hini : Cond.initialized "java/lang/Math" ∈ Ts) (hcode : Cond.code Lib.Math.max.name Lib.Math.max.code 2 (some .int) ∈ Ts) (hfr : 1 ≤ R.frames) (hlo : (st.map fun v => v.category).sum + 13 ≤ R.locals) (hc : cells ≤ R.cells ∧ slots ≤ R.slots) (hdg : decode cc pc = .ok (.invokestatic index, 3)) (kk : G X R cc nL own Ts E zs cells slots ws lv (pc + 3) (.int (iI (max x y)) :: st)) : G X R cc nL own Ts E zs cells slots ws lv pc (.int (iI y) :: .int (iI x) :: st) := by
  obtain ⟨p, l, e, s, m, args, below, meth, c, A, Q⟩ := X
  intro hF hA hK hZ H locs ls hP hD hS hl
  exact va_mmax hF.1 hF.2.1 (hF.2.2.1.trans hl.1.symm) hF.2.2.2.1 (hF.2.2.2.2 _ hlink) (hF.2.2.2.2 _ hstat) (hF.2.2.2.2 _ hini) (hF.2.2.2.2 _ hcode) hfr hlo hc.1 hc.2 hdg (by rw [max_I hx hy]; exact kk hF hA hK hZ H locs ls hP hD hS hl)

theorem g_mmin {x y : Int} {index : Nat} (hx : R32 x) (hy : R32 y) (hlink : Cond.methodLink own index Lib.Math.min.name ∈ Ts) (hstat : Cond.static Lib.Math.min.name ∈ Ts) (hini : Cond.initialized "java/lang/Math" ∈ Ts) (hcode : Cond.code Lib.Math.min.name Lib.Math.min.code 2 (some .int) ∈ Ts) (hfr : 1 ≤ R.frames) (hlo : (st.map fun v => v.category).sum + 13 ≤ R.locals) (hc : cells ≤ R.cells ∧ slots ≤ R.slots) (hdg : decode cc pc = .ok (.invokestatic index, 3)) (kk : G X R cc nL own Ts E zs cells slots ws lv (pc + 3) (.int (iI (min x y)) :: st)) : G X R cc nL own Ts E zs cells slots ws lv pc (.int (iI y) :: .int (iI x) :: st) := by
  obtain ⟨p, l, e, s, m, args, below, meth, c, A, Q⟩ := X
  intro hF hA hK hZ H locs ls hP hD hS hl
  exact va_mmin hF.1 hF.2.1 (hF.2.2.1.trans hl.1.symm) hF.2.2.2.1 (hF.2.2.2.2 _ hlink) (hF.2.2.2.2 _ hstat) (hF.2.2.2.2 _ hini) (hF.2.2.2.2 _ hcode) hfr hlo hc.1 hc.2 hdg (by rw [min_I hx hy]; exact kk hF hA hK hZ H locs ls hP hD hS hl)

theorem g_mabs {x : Int} {index : Nat} (hx : R32 x) (hlink : Cond.methodLink own index Lib.Math.abs.name ∈ Ts) (hstat : Cond.static Lib.Math.abs.name ∈ Ts) (hini : Cond.initialized "java/lang/Math" ∈ Ts) (hcode : Cond.code Lib.Math.abs.name Lib.Math.abs.code 1 (some .int) ∈ Ts) (hfr : 1 ≤ R.frames) (hlo : (st.map fun v => v.category).sum + 13 ≤ R.locals) (hc : cells ≤ R.cells ∧ slots ≤ R.slots) (hdg : decode cc pc = .ok (.invokestatic index, 3)) (kk : G X R cc nL own Ts E zs cells slots ws lv (pc + 3) (.int (iI (if 0 ≤ x then x else -x)) :: st)) : G X R cc nL own Ts E zs cells slots ws lv pc (.int (iI x) :: st) := by
  obtain ⟨p, l, e, s, m, args, below, meth, c, A, Q⟩ := X
  intro hF hA hK hZ H locs ls hP hD hS hl
  exact va_mabs hF.1 hF.2.1 (hF.2.2.1.trans hl.1.symm) hF.2.2.2.1 (hF.2.2.2.2 _ hlink) (hF.2.2.2.2 _ hstat) (hF.2.2.2.2 _ hini) (hF.2.2.2.2 _ hcode) hfr hlo hc.1 hc.2 hdg (by rw [abs_I hx]; exact kk hF hA hK hZ H locs ls hP hD hS hl)

theorem g_objInit {index a : Nat} (hlink : Cond.methodLink own index objectInit ∈ Ts) (hinst : Cond.instanceMethod objectInit ∈ Ts) (hcode : Cond.code objectInit ⟨#[0xb1]⟩ 1 none ∈ Ts) (hdg : decode cc pc = .ok (.invokespecial index, 3)) (hfr : 1 ≤ R.frames) (hlo : (st.map fun v => v.category).sum + 12 ≤ R.locals) (kk : G X R cc nL own Ts E zs cells slots ws lv (pc + 3) (st)) : G X R cc nL own Ts E zs cells slots ws lv pc (.ref a :: st) := by
  obtain ⟨p, l, e, s, m, args, below, meth, c, A, Q⟩ := X
  intro hF hA hK hZ H locs ls hP hD hS hl
  exact W.objInit hF.1 hF.2.1 hF.2.2.2.1 (hF.2.2.2.2 _ hlink) (hF.2.2.2.2 _ hinst) (hF.2.2.2.2 _ hcode) rfl (hl.1.trans hF.2.2.1.symm) rfl hdg hfr (by show 2 * 0 + _ + 12 ≤ _; omega) (kk hF hA hK hZ H locs ls hP hD hS hl)

theorem g_newI {n : Int} {N : Nat} (harr : Cond.arrayClass .int ∈ Ts) (hn : n = (N : Int)) (hN : N ≤ 10000) (hcl : cells + 1 ≤ R.cells ∧ slots + N ≤ R.slots) (hdg : decode cc pc = .ok (.newarray .int, 2)) (kk : ∀ q : Nat, G X R cc nL own Ts E zs (cells + 1) (slots + N) (ws ++ [(q, aI E N (fun _ => 0))]) lv (pc + 2) (.ref q :: st)) : G X R cc nL own Ts E zs cells slots ws lv pc (.int (iI n) :: st) := by
  obtain ⟨p, l, e, s, m, args, below, meth, c, A, Q⟩ := X
  intro hF hA hK hZ H locs ls hP hD hS hl
  subst hn
  have hr : R32 (N : Int) := by unfold R32; omega
  have hN0 : ¬ iI (N : Int) < 0 := fun q => by have := (iI_lt hr R32_0).mp q; omega
  have hNc : (iI (N : Int)).toNatClampNeg = N := by have := iI_cl (x := (N : Int)) (by omega) (by omega); omega
  refine va_newa (atype := .int) hF.1 hF.2.1 (hF.2.2.2.2 _ harr) rfl hK hP hD hS hA (a0 := (N, .inl (fun _ => 0))) (fun cA => rfl) hN0 hNc (by show N * 4 ≤ 536870912; omega) hcl.1 hcl.2 hdg (fun q cA H1 hK1 hP1 hD1 hS1 => ?_)
  have e1 : cA = (tysE E)[0].1 := by
    have h1 := (hK1.2 3 (cA, .int) rfl).2
    have h2 := (hK.2 0 _ rfl).2
    exact Option.some.inj (Eq.trans (Eq.symm h1) h2)
  subst e1
  exact kk q hF hA hK hZ H1 locs ls hP1 hD1 hS1 hl

theorem g_newZ {n : Int} {N : Nat} (harr : Cond.arrayClass .boolean ∈ Ts) (hn : n = (N : Int)) (hN : N ≤ 10000) (hcl : cells + 1 ≤ R.cells ∧ slots + N ≤ R.slots) (hdg : decode cc pc = .ok (.newarray .boolean, 2)) (kk : ∀ q : Nat, G X R cc nL own Ts E zs (cells + 1) (slots + N) (ws ++ [(q, aZ E N (fun _ => 0))]) lv (pc + 2) (.ref q :: st)) : G X R cc nL own Ts E zs cells slots ws lv pc (.int (iI n) :: st) := by
  obtain ⟨p, l, e, s, m, args, below, meth, c, A, Q⟩ := X
  intro hF hA hK hZ H locs ls hP hD hS hl
  subst hn
  have hr : R32 (N : Int) := by unfold R32; omega
  have hN0 : ¬ iI (N : Int) < 0 := fun q => by have := (iI_lt hr R32_0).mp q; omega
  have hNc : (iI (N : Int)).toNatClampNeg = N := by have := iI_cl (x := (N : Int)) (by omega) (by omega); omega
  refine va_newa (atype := .boolean) hF.1 hF.2.1 (hF.2.2.2.2 _ harr) rfl hK hP hD hS hA (a0 := (N, .inl (fun _ => 0))) (fun cA => rfl) hN0 hNc (by show N * 1 ≤ 536870912; omega) hcl.1 hcl.2 hdg (fun q cA H1 hK1 hP1 hD1 hS1 => ?_)
  have e1 : cA = (tysE E)[1].1 := by
    have h1 := (hK1.2 3 (cA, .boolean) rfl).2
    have h2 := (hK.2 1 _ rfl).2
    exact Option.some.inj (Eq.trans (Eq.symm h1) h2)
  subst e1
  exact kk q hF hA hK hZ H1 locs ls hP1 hD1 hS1 hl

theorem g_new {C : String} {T : u_T} {N ci index : Nat} {fs : List Value} (hin : ∀ w ∈ u_ws C T N, w ∈ Ts) (ty : Nat → FieldType) (hty : ∀ k, k < N → parseFieldDescriptor (T k).2.2.1 = some (ty k)) (hcll : Cond.classLink own index C ∈ Ts) (hinst : Cond.instantiable C N ∈ Ts) (hini : Cond.initialized C ∈ Ts) (hc : vwCl[ci]? = some (C, T, N)) (hfs : ∀ j, j < N → defaultValue (ty j) = vp_V fs j) (hcl : cells + 1 ≤ R.cells ∧ slots + N ≤ R.slots) (hdg : decode cc pc = .ok (.new index, 3)) (kk : ∀ q : Nat, G X R cc nL own Ts E zs (cells + 1) (slots + N) (ws ++ [(q, oo ci fs)]) lv (pc + 3) (.ref q :: st)) : G X R cc nL own Ts E zs cells slots ws lv pc (st) := by
  obtain ⟨p, l, e, s, m, args, below, meth, c, A, Q⟩ := X
  intro hF hA hK hZ H locs ls hP hD hS hl
  exact va_new hF.1 hF.2.1 hF.2.2.2.2 hin ty hty hF.2.2.2.1 (hF.2.2.2.2 _ hcll) (hF.2.2.2.2 _ hinst) (hF.2.2.2.2 _ hini) hK hP hD hS hA hc hfs hcl.1 hcl.2 hdg (fun q H1 hP1 hD1 hS1 => kk q hF hA hK hZ H1 locs ls hP1 hD1 hS1 hl)

theorem bI_t {p : Prop} [Decidable p] (h : p) : iI 1 = iI (bI p) := by unfold bI; rw [if_pos h]
theorem bI_f {p : Prop} [Decidable p] (h : ¬ p) : iI 0 = iI (bI p) := by unfold bI; rw [if_neg h]
theorem bI_c {p q : Prop} [Decidable p] [Decidable q] (h : p ↔ q) : iI (bI p) = iI (bI q) := by
  unfold bI
  by_cases hp : p
  · rw [if_pos hp, if_pos (h.mp hp)]
  · rw [if_neg hp, if_neg (fun z => hp (h.mpr z))]
theorem nar_b (p : Prop) [Decidable p] : narrow .boolean (.int (iI (bI p))) = .int (iI (bI p)) := by unfold bI; split <;> rfl
theorem fit_b (p : Prop) [Decidable p] : fits .boolean (.int (iI (bI p))) = true := by unfold bI; split <;> rfl
theorem bI_01 (p : Prop) [Decidable p] : bI p = 0 ∨ bI p = 1 := by unfold bI; split <;> omega
theorem lt_nn (m : Int) : m < (((m + 1).toNat : Nat) : Int) := by omega
theorem g_if_eq_b {p : Prop} [Decidable p] {off : Int} {tgt : Nat} (hdg : decode cc pc = .ok (.ifCond .eq off, 3)) (ht : (pc : Int) + off = (tgt : Int)) (kt : p → G X R cc nL own Ts E zs cells slots ws lv (pc + 3) st) (kf : ¬ p → G X R cc nL own Ts E zs cells slots ws lv tgt st) : G X R cc nL own Ts E zs cells slots ws lv pc (.int (iI (bI p)) :: st) := by
  refine g_if_eq (by unfold bI R32; split <;> omega) hdg ht (fun h => kf (fun q => ?_)) (fun h => kt (Classical.byContradiction fun q => ?_))
  · unfold bI at h; rw [if_pos q] at h; omega
  · unfold bI at h; rw [if_neg q] at h; omega
theorem g_if_ne_b {p : Prop} [Decidable p] {off : Int} {tgt : Nat} (hdg : decode cc pc = .ok (.ifCond .ne off, 3)) (ht : (pc : Int) + off = (tgt : Int)) (kt : p → G X R cc nL own Ts E zs cells slots ws lv tgt st) (kf : ¬ p → G X R cc nL own Ts E zs cells slots ws lv (pc + 3) st) : G X R cc nL own Ts E zs cells slots ws lv pc (.int (iI (bI p)) :: st) := by
  refine g_if_ne (by unfold bI R32; split <;> omega) hdg ht (fun h => kf (fun q => ?_)) (fun h => kt (Classical.byContradiction fun q => ?_))
  · unfold bI at h; rw [if_pos q] at h; omega
  · unfold bI at h; rw [if_neg q] at h; exact h rfl

end GMORE

end LAYER2
