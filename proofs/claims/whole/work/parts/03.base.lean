/-! Words: one list for all methods. -/
def zW : List Cond := lw_tbl.filter goodWord
theorem zin (i : Nat) {w : Cond} (h : tables_1[i]? = some w) (hg : goodWord w = true) : w ∈ zW := List.mem_filter.mpr ⟨List.mem_append_right _ (List.mem_of_getElem? h), hg⟩
theorem zinS (i : Nat) {w : Cond} (h : (k2_sels lw_privs)[i]? = some w) (hg : goodWord w = true) : w ∈ zW := List.mem_filter.mpr ⟨List.mem_append_left _ (List.mem_of_getElem? h), hg⟩
theorem z_good {w : Cond} (h : w ∈ zW) : GoodIn zW (w :: zW) := fun x hx => by
  have hx : x ∈ zW := (List.mem_cons.mp hx).elim (fun e => e ▸ h) id
  exact ⟨hx, good_of_word (List.mem_filter.mp hx).2⟩
theorem z_tail {w : Cond} {args : Array Value} {s : State} (h : ∀ x ∈ w :: zW, x.before args s = true) : ∀ x ∈ zW, x.before args s = true := fun x hx => h x (List.mem_cons_of_mem _ hx)
abbrev zHd (y : MethodName) (n : Nat) : Prop := y.cls ≠ "java/lang/invoke/MethodHandle" ∧ y.cls ≠ "java/lang/invoke/VarHandle" ∧ (parseMethodDescriptor y.desc).map (fun d => d.parameters.length) = some n
def zVW (y : MethodName) (b : ByteArray) (ml : Nat) (ret : Option FieldType) (n : Nat) : Prop := Cond.code y b ml ret ∈ zW ∧ Cond.initialized y.cls ∈ zW ∧ Cond.instanceMethod y ∈ zW ∧ Cond.selects y.cls y y ∈ zW ∧ zHd y n
def zSW (y : MethodName) (b : ByteArray) (ml : Nat) (ret : Option FieldType) (n : Nat) : Prop := Cond.code y b ml ret ∈ zW ∧ Cond.initialized y.cls ∈ zW ∧ Cond.static y ∈ zW ∧ zHd y n
def zIW (y : MethodName) (b : ByteArray) (ml : Nat) (n : Nat) : Prop := Cond.code y b ml none ∈ zW ∧ Cond.initialized y.cls ∈ zW ∧ Cond.instanceMethod y ∈ zW ∧ y.name = "<init>" ∧ zHd y n
def zNl : List (String × Nat × MethodName) := [("SquareCode$Source", 27, ⟨"SquareCode", "operandsOf", "(I)I"⟩), ("SquareCode$Source", 36, ⟨"SquareCode", "topDigit", "(I)I"⟩), ("SquareCode$Compiler", 30, ⟨"SquareCode", "operandsOf", "(I)I"⟩), ("SquareCode$Compiler", 48, ⟨"SquareCode", "topDigit", "(I)I"⟩), ("SquareCode$Compiler", 51, ⟨"SquareCode", "isDigitOne", "(II)Z"⟩), ("SquareCode$Optimiser", 99, ⟨"SquareCode", "operandsOf", "(I)I"⟩), ("SquareCode$Matrices", 75, ⟨"SquareCode", "topDigit", "(I)I"⟩), ("SquareCode$Matrices", 79, ⟨"SquareCode", "isDigitOne", "(II)Z"⟩)]
def zNest (U : State) : Prop := ∀ q ∈ zNl, va_Nw (.methodLinkNest q.1 q.2.1 q.2.2 "SquareCode") U
theorem zNestOf (j : Nat) {q : String × Nat × MethodName} {s : State} (hN : zNest s) (h : zNl[j]? = some q) : va_Nw (.methodLinkNest q.1 q.2.1 q.2.2 "SquareCode") s := hN q (List.mem_of_getElem? h)
theorem zNest.warm {s U : State} (hW : s.WarmedH U.vm) (h : zNest s) : zNest U := fun q hq => va_Nw.warmM hW (h q hq)
theorem zNest.same {s U : State} (hv : s.vm = U.vm) (h : zNest s) : zNest U := fun q hq => va_Nw.same rfl hv (h q hq)
/-! My own rows over the kit: pure guards, contracts over a fixed picture, calls with the frame put back in order. -/
def zFU : Nat := 4096
def nm {α β : Type} (x : α) (k : α → Option β) : Option β := k x
def gd {β : Type} (i : Int32) (n : Nat) (k : Option β) : Option β := if i < 0 ∨ n ≤ i.toNatClampNeg then none else k
def nz {β : Type} (y : Int32) (k : Option β) : Option β := if y = 0 then none else k
def cpg {β : Type} (sp dp n : Int32) (n0 n1 : Nat) (k : Option β) : Option β := if sp < 0 ∨ dp < 0 ∨ n < 0 ∨ n0 < sp.toNatClampNeg + n.toNatClampNeg ∨ n1 < dp.toNatClampNeg + n.toNatClampNeg then none else k
def zrem (x y : Int32) : Int32 := x - x / y * y
def zmin (x y : Int32) : Int32 := if y < x then y else x
def zmax (x y : Int32) : Int32 := if x < y then y else x
def zushr (x y : Int32) : Int32 := (x.toUInt32 >>> (y.toUInt32 &&& Int32.toUInt32 31)).toInt32
theorem nm_some {α β : Type} {x : α} {k : α → Option β} {z : β} (h : nm x k = some z) : ∃ u, u = x ∧ k u = some z := ⟨x, rfl, h⟩
theorem gd_some {β : Type} {i : Int32} {n : Nat} {k : Option β} {z : β} (h : gd i n k = some z) : vp_in i n ∧ k = some z := by
  unfold gd at h
  by_cases hc : i < 0 ∨ n ≤ i.toNatClampNeg
  · rw [if_pos hc] at h; cases h
  · rw [if_neg hc] at h; exact ⟨hc, h⟩
theorem nz_some {β : Type} {y : Int32} {k : Option β} {z : β} (h : nz y k = some z) : ¬ y = 0 ∧ k = some z := by
  unfold nz at h
  by_cases hc : y = 0
  · rw [if_pos hc] at h; cases h
  · rw [if_neg hc] at h; exact ⟨hc, h⟩
theorem cpg_some {β : Type} {sp dp n : Int32} {n0 n1 : Nat} {k : Option β} {z : β} (h : cpg sp dp n n0 n1 k = some z) : ¬ sp < 0 ∧ ¬ dp < 0 ∧ ¬ n < 0 ∧ sp.toNatClampNeg + n.toNatClampNeg ≤ n0 ∧ dp.toNatClampNeg + n.toNatClampNeg ≤ n1 ∧ k = some z := by
  unfold cpg at h
  by_cases hc : sp < 0 ∨ dp < 0 ∨ n < 0 ∨ n0 < sp.toNatClampNeg + n.toNatClampNeg ∨ n1 < dp.toNatClampNeg + n.toNatClampNeg
  · rw [if_pos hc] at h; cases h
  · rw [if_neg hc] at h
    refine ⟨fun h1 => hc (Or.inl h1), fun h1 => hc (Or.inr (Or.inl h1)), fun h1 => hc (Or.inr (Or.inr (Or.inl h1))), ?_, ?_, h⟩
    · exact Nat.le_of_not_lt fun h1 => hc (Or.inr (Or.inr (Or.inr (Or.inl h1))))
    · exact Nat.le_of_not_lt fun h1 => hc (Or.inr (Or.inr (Or.inr (Or.inr h1))))
theorem ob {α β : Type} {o : Option α} {f : α → Option β} {z : β} (h : o.bind f = some z) : ∃ r, o = some r ∧ f r = some z := by
  cases o with
  | none => cases h
  | some r => exact ⟨r, rfl, h⟩
theorem z_ne {x c : Int32} {k : Int} (hk : c.toInt = k) (h : ¬ x = c) : ¬ x.toInt = k := fun e => h (Int32.toInt_inj.mp (e.trans hk.symm))
theorem z_fm {α β : Type} {f : α → Option β} {l : List α} {r : List β} (h : l.map f = r.map some) : l.filterMap f = r := by
  induction l generalizing r with
  | nil => cases r with
    | nil => rfl
    | cons a r => cases h
  | cons a l ih => cases r with
    | nil => cases h
    | cons b r =>
      simp only [List.map_cons, List.cons.injEq] at h
      rw [List.filterMap_cons, h.1, ih h.2]
/-- a contract out of a walk, also for a class some of whose methods have entries, where this one has none -/
theorem zofW {l : Launch} {y : MethodName} {ws ws' : List Cond} {rm : Room} {Pc : Array Value → State → Prop} {Qc : Array Value → State → Outcome → State → Prop} {mc ms : Nat} {free : Addr → Prop} {cc : ByteArray} {maxL : Nat} {ret : Option FieldType}
    (hy : plainFor y = true) (hw : ws = Cond.code y cc maxL ret :: ws')
    (body : ∀ p e s m args below meth c s₁, BodyLoose p l y (headSpec ws rm) cc maxL ret e s m args below meth c s₁ → c.maxLocals = maxL → Pc args s →
      W p l e (headSpec ws rm).room s m args below meth c s.heap [] 0 0 (MQ below Qc args s mc ms free) (entryFrame m args maxL)) : Met l y ws rm Pc Qc mc ms free := by
  refine MetFree.of_bodySF (code := cc) (maxLocals := maxL) (ret := ret) hy (fun args s m h hn => ?_) (fun p e s m args below meth c s₁ B hml hP _ => ?_)
  · obtain ⟨meth, c, h1, h2, h3, h4, h5, h6, -, -⟩ := Cond.code_spec hn (atoms_spec (ws := ws) h _ (by rw [hw]; exact List.mem_cons_self))
    exact ⟨meth, c, h1, h2, h3, h4, h5, h6⟩
  · have hh : s₁.heap = s.heap := by rw [B.state]; rfl
    obtain ⟨t, a1, o, b1, b2, b3, b4⟩ := body p e s m args below meth c s₁ B hml hP s₁ hh (Stand.of_body B)
    exact ⟨t, o, a1, b1, b2, b3, b4⟩
abbrev zT (kI kZ : ClassId) : List (ClassId × FieldType) := [(kI, .int), (kZ, .boolean)]
def zP (D : va_G) (kI kZ : ClassId) (ws : va_W) (sz : Nat) (U : State) : Prop := U.heap.size = sz ∧ va_P D zCl ws U.heap ∧ va_K D zCl (zT kI kZ) U ∧ va_D (fun _ => True) ws ∧ zNest U
def zB (D : va_G) (kI kZ : ClassId) (A : Nat → Prop) (ws : va_W) (_ : Unit) (t : State) : Prop := va_P D zCl ws t.heap ∧ va_K D zCl (zT kI kZ) t ∧ va_D A ws
/-- a method that answers r and turns the cells w into w' -/
def zMi (l : Launch) (D : va_G) (kI kZ : ClassId) (y : MethodName) (cc : ByteArray) (maxL : Nat) (ret : Option FieldType) (fr lo : Nat) (av : List Value) (w w' : va_W) (r : Int32) : Prop :=
  ∀ sz : Nat, Met l y (Cond.code y cc maxL ret :: zW) { frames := fr, cells := 0, slots := 0, locals := lo } (va_Pc av (zP D kI kZ w sz)) (va_Qi (fun (z : Int32) (_ : Unit) => z = r) (zB D kI kZ (va_A w sz) w') (va_A w sz)) 0 0 (va_A w sz)
/-- a method that answers nothing and turns the cells w into w' -/
def zMv (l : Launch) (D : va_G) (kI kZ : ClassId) (y : MethodName) (cc : ByteArray) (maxL : Nat) (ret : Option FieldType) (fr lo : Nat) (av : List Value) (w w' : va_W) : Prop :=
  ∀ sz : Nat, Met l y (Cond.code y cc maxL ret :: zW) { frames := fr, cells := 0, slots := 0, locals := lo } (va_Pc av (zP D kI kZ w sz)) (va_Qv (fun (_ : Unit) => True) (zB D kI kZ (va_A w sz) w') (va_A w sz)) 0 0 (va_A w sz)
theorem zMi.of {l : Launch} {D : va_G} {kI kZ : ClassId} {y : MethodName} {fr lo : Nat} {av : List Value} {w w' : va_W} {r : Int32} {cc : ByteArray} {maxL : Nat} {ty : FieldType}
    (hy : plainFor y = true) (hle : (lg_sl av).length ≤ maxL)
    (body : ∀ (p : Program) (e : Env) (R : Room) (s : State) (m : MethodId) (args : Array Value) (below : List Frame) (meth : Method) (c : Code) (Q : State → Prop) (A : Nat → Prop),
      R = { frames := fr, cells := 0, slots := 0, locals := lo } → p.tables.exec = Jvm.exec → c.code = cc → c.maxLocals = maxL → (∀ x ∈ zW, x.before args s = true) → s.vm.findClass y.cls = some m.cls → (∀ q : Nat, s.heap.size ≤ q → A q) → va_K D zCl (zT kI kZ) s → zNest s →
      (∀ (H : Heap) (locs : List Loc) (pc : Nat) (ls : Array Slot) (v : Int32), decode cc pc = .ok (.ireturn, 1) → narrow ty (.int v) = .int v → v = r → va_P D zCl w' H → va_D A w' → va_S A s.heap H locs → W p l e R s m args below meth c H locs 0 0 Q (F0 m pc ls [.int v])) →
      ∀ (ls : Array Slot) (H : Heap), lv_has ls maxL (lv_args 0 av) → va_P D zCl w H → va_D A w → va_S A s.heap H [] → W p l e R s m args below meth c H [] 0 0 Q (F0 m 0 ls [])) : zMi l D kI kZ y cc maxL (some ty) fr lo av w w' r := by
  intro sz
  refine zofW (cc := cc) (maxL := maxL) (ret := some ty) hy rfl ?_
  intro p e s m args below meth c s₁ B hml hv
  obtain ⟨rfl, hsz, hP, hK, hD0, hN⟩ := hv
  have hx := B.exec
  have hb := B.bytes
  have hr := B.returns
  have hts := z_tail (atoms_spec (ws := Cond.code y cc maxL (some ty) :: zW) B.pre)
  have hown : s.vm.findClass y.cls = some m.cls := findClass_of_methodNamed B.named
  have hlocks := B.notSynchronized
  subst hsz
  have hD := hD0.self (sz := s.heap.size)
  have hl := lv_entry av (n := maxL) hle
  rw [lg_entry_eq]
  exact body p e _ s m _ below meth c _ (va_A w s.heap.size) rfl hx hb hml hts hown (fun q h => Or.inr h) hK hN
    (fun H locs pc ls v hd hn hv hP hD hS => W.zret hx hb hr hn (fun t ht hW => ⟨⟨v, (), rfl, hv, by rw [ht]; exact hP, va_K.moved hW.alike hK, hD⟩, hS.F ht⟩) hS.2.2 hd hlocks) _ _ hl hP hD va_S.rf
theorem zMv.of {l : Launch} {D : va_G} {kI kZ : ClassId} {y : MethodName} {fr lo : Nat} {av : List Value} {w w' : va_W} {cc : ByteArray} {maxL : Nat}
    (hy : plainFor y = true) (hle : (lg_sl av).length ≤ maxL)
    (body : ∀ (p : Program) (e : Env) (R : Room) (s : State) (m : MethodId) (args : Array Value) (below : List Frame) (meth : Method) (c : Code) (Q : State → Prop) (A : Nat → Prop),
      R = { frames := fr, cells := 0, slots := 0, locals := lo } → p.tables.exec = Jvm.exec → c.code = cc → c.maxLocals = maxL → (∀ x ∈ zW, x.before args s = true) → s.vm.findClass y.cls = some m.cls → (∀ q : Nat, s.heap.size ≤ q → A q) → va_K D zCl (zT kI kZ) s → zNest s →
      (∀ (H : Heap) (locs : List Loc) (pc : Nat) (ls : Array Slot), decode cc pc = .ok (.return_, 1) → va_P D zCl w' H → va_D A w' → va_S A s.heap H locs → W p l e R s m args below meth c H locs 0 0 Q (F0 m pc ls [])) →
      ∀ (ls : Array Slot) (H : Heap), lv_has ls maxL (lv_args 0 av) → va_P D zCl w H → va_D A w → va_S A s.heap H [] → W p l e R s m args below meth c H [] 0 0 Q (F0 m 0 ls [])) : zMv l D kI kZ y cc maxL none fr lo av w w' := by
  intro sz
  refine zofW (cc := cc) (maxL := maxL) (ret := none) hy rfl ?_
  intro p e s m args below meth c s₁ B hml hv
  obtain ⟨rfl, hsz, hP, hK, hD0, hN⟩ := hv
  have hx := B.exec
  have hb := B.bytes
  have hr := B.returns
  have hts := z_tail (atoms_spec (ws := Cond.code y cc maxL none :: zW) B.pre)
  have hown : s.vm.findClass y.cls = some m.cls := findClass_of_methodNamed B.named
  have hlocks := B.notSynchronized
  subst hsz
  have hD := hD0.self (sz := s.heap.size)
  have hl := lv_entry av (n := maxL) hle
  rw [lg_entry_eq]
  exact body p e _ s m _ below meth c _ (va_A w s.heap.size) rfl hx hb hml hts hown (fun q h => Or.inr h) hK hN
    (fun H locs pc ls hd hP hD hS => W.vret hx hb hr (fun t ht hW => ⟨⟨(), rfl, trivial, by rw [ht]; exact hP, va_K.moved hW.alike hK, hD⟩, hS.F ht⟩) hS.2.2 hd hlocks) _ _ hl hP hD va_S.rf
section ZRows
variable {p : Program} {l : Launch} {e : Env} {R : Room} {s : State} {m : MethodId} {args : Array Value} {below : List Frame} {meth : Method} {c : Code} {H : Heap} {locs : List Loc} {Q : State → Prop}
variable {cc : ByteArray} {pc : Nat} {ls : Array Slot} {rest : List Value} {cells slots : Nat}
theorem z_top {x y : Int32} (e1 : y = x) (k : W p l e R s m args below meth c H locs cells slots Q (F0 m pc ls (.int y :: rest))) : W p l e R s m args below meth c H locs cells slots Q (F0 m pc ls (.int x :: rest)) := e1 ▸ k
theorem z_irem (hexec : p.tables.exec = Jvm.exec) (hb : c.code = cc) {x y : Int32} (hdg : decode cc pc = .ok (.irem, 1)) (hne : ¬ y = 0)
    (k : W p l e R s m args below meth c H locs cells slots Q (F0 m (pc + 1) ls (.int (zrem x y) :: rest))) : W p l e R s m args below meth c H locs cells slots Q (F0 m pc ls (.int y :: .int x :: rest)) := lv_irem hexec hb hdg hne k
theorem zP_blind {D : va_G} {kI kZ : ClassId} {av : List Value} {w : va_W} {sz : Nat} : FrameBlind (va_Pc av (zP D kI kZ w sz)) := fun a U g mk q => by
  obtain ⟨q0, q1, qP, qK, qD, qN⟩ := q
  exact ⟨q0, q1, qP, va_K.moved (u := U) (U := U.calling g mk a) (Vm.Alike.refl U.vm) qK, qD, zNest.same (s := U) (U := U.calling g mk a) rfl qN⟩
theorem z_pre {D : va_G} {kI kZ : ClassId} {As : List Value} {ws wc : va_W} {A : Nat → Prop} (hK : va_K D zCl (zT kI kZ) s) (hP : va_P D zCl ws H) (hD : va_D A ws) (hN : zNest s) (isC : List Nat) (hn : va_nd isC = true) (hC : isC.map (fun i => ws[i]?) = wc.map some) : PreS s H (va_Pc As (zP D kI kZ wc H.size)) As :=
  ⟨zP_blind, fun U hU hW => ⟨rfl, by rw [hU], by rw [hU]; exact hP.sub isC (z_fm hC), va_K.moved hW.alike hK, (hD.sub isC hn hC).weaken (fun _ _ _ _ => trivial), zNest.warm hW hN⟩⟩
theorem z_preV {D : va_G} {kI kZ : ClassId} {As : List Value} {ws wc : va_W} {A : Nat → Prop} {b q0 ci N : Nat} {C : String} {T : u_T} {fs : List Value} (hK : va_K D zCl (zT kI kZ) s) (hP : va_P D zCl ws H) (hD : va_D A ws) (hN : zNest s) (hc : zCl[ci]? = some (C, T, N)) (he : ws[q0]? = some (b, .inr (ci, fs))) (isC : List Nat) (hn : va_nd isC = true) (hC : isC.map (fun i => ws[i]?) = wc.map some) : PreV s H C b (va_Pc (.ref b :: As) (zP D kI kZ wc H.size)) As :=
  ⟨zP_blind, va_recv hK hP hc he, (z_pre hK hP hD hN isC hn hC).2⟩
/-- behind a call that answers an int -/
theorem z_ci {st0 : List Value} {a : Array Value} {A : Nat → Prop} {H0 : Heap} {D : va_G} {kI kZ : ClassId} {ws wc wr w1 w2 : va_W} {r : Int32}
    (hr : va_Run p l e R s m args below meth c H locs 0 0 0 0 (F0 m pc ls st0) rest (va_Qi (fun (z : Int32) (_ : Unit) => z = r) (zB D kI kZ (va_A wc H.size) w1) (va_A wc H.size) a) (va_A wc H.size))
    (hP : va_P D zCl ws H) (hD : va_D A ws) (hS : va_S A H0 H locs) (hA : ∀ q : Nat, H0.size ≤ q → A q) (isC isR pm : List Nat) (hC : isC.map (fun i => ws[i]?) = wc.map some) (hR : isR.map (fun i => ws[i]?) = wr.map some) (hn : va_nd isR = true) (hdis : ∀ i ∈ isR, i ∉ isC) (hpm : pm.map (fun i => (wr ++ w1)[i]?) = w2.map some) (hpn : va_nd pm = true)
    (kk : ∀ (H1 : Heap) (locs1 : List Loc), va_P D zCl w2 H1 → va_D A w2 → va_S A H0 H1 locs1 → W p l e R s m args below meth c H1 locs1 0 0 Q (F0 m (pc + 3) ls (.int r :: rest))) : W p l e R s m args below meth c H locs 0 0 Q (F0 m pc ls st0) := by
  have hFc := va_free (wc := wc) hD hS hA isC hC
  refine va_calli hr hS (fun q _ h => hFc q h) hFc (fun z u t H1 locs1 ht hvm h5 hB hz1 hk1 hS => ?_)
  obtain ⟨hP1, hK1, hD1⟩ := hB
  rw [ht] at hP1
  obtain ⟨hP, hD⟩ := va_join hP hD isC isR hC hR hn hdis hk1 hFc hP1 hD1
  subst h5
  exact kk H1 locs1 (hP.sub pm (z_fm hpm)) (hD.sub pm hpn hpm) hS
/-- behind a call that answers nothing -/
theorem z_cv {st0 : List Value} {a : Array Value} {A : Nat → Prop} {H0 : Heap} {D : va_G} {kI kZ : ClassId} {ws wc wr w1 w2 : va_W}
    (hr : va_Run p l e R s m args below meth c H locs 0 0 0 0 (F0 m pc ls st0) rest (va_Qv (fun (_ : Unit) => True) (zB D kI kZ (va_A wc H.size) w1) (va_A wc H.size) a) (va_A wc H.size))
    (hP : va_P D zCl ws H) (hD : va_D A ws) (hS : va_S A H0 H locs) (hA : ∀ q : Nat, H0.size ≤ q → A q) (isC isR pm : List Nat) (hC : isC.map (fun i => ws[i]?) = wc.map some) (hR : isR.map (fun i => ws[i]?) = wr.map some) (hn : va_nd isR = true) (hdis : ∀ i ∈ isR, i ∉ isC) (hpm : pm.map (fun i => (wr ++ w1)[i]?) = w2.map some) (hpn : va_nd pm = true)
    (kk : ∀ (H1 : Heap) (locs1 : List Loc), va_P D zCl w2 H1 → va_D A w2 → va_S A H0 H1 locs1 → W p l e R s m args below meth c H1 locs1 0 0 Q (F0 m (pc + 3) ls rest)) : W p l e R s m args below meth c H locs 0 0 Q (F0 m pc ls st0) := by
  have hFc := va_free (wc := wc) hD hS hA isC hC
  refine va_callv hr hS (fun q _ h => hFc q h) hFc (fun u t H1 locs1 ht hvm h5 hB hz1 hk1 hS => ?_)
  obtain ⟨hP1, hK1, hD1⟩ := hB
  rw [ht] at hP1
  obtain ⟨hP, hD⟩ := va_join hP hD isC isR hC hR hn hdis hk1 hFc hP1 hD1
  exact kk H1 locs1 (hP.sub pm (z_fm hpm)) (hD.sub pm hpn hpm) hS
theorem z_cwV {own : String} {index : Nat} {y : MethodName} {bytes : ByteArray} {maxL n fr lo : Nat} {ret : Option FieldType} (hts : ∀ w ∈ zW, w.before args s = true) (hm : zVW y bytes maxL ret n) (hl : Cond.methodLink own index y ∈ zW) (hR : fr + 1 ≤ R.frames ∧ 8 + (maxL + 11) + lo ≤ R.locals) : CallW R s args own y.cls index y bytes maxL ret (Cond.code y bytes maxL ret :: zW) { frames := fr, cells := 0, slots := 0, locals := lo } 0 0 n :=
  ⟨callB_of n hts (z_good hm.1) rfl rfl rfl (hts _ hm.2.1) (hts _ hl) hm.2.2.2.2 hR, hts _ hm.2.2.1, hts _ hm.2.2.2.1⟩
theorem z_cwS {own : String} {index : Nat} {y : MethodName} {bytes : ByteArray} {maxL n fr lo : Nat} {ret : Option FieldType} (hts : ∀ w ∈ zW, w.before args s = true) (hm : zSW y bytes maxL ret n) (hl : Cond.methodLink own index y ∈ zW) (hR : fr + 1 ≤ R.frames ∧ 8 + (maxL + 11) + lo ≤ R.locals) : CallB R s args own index y bytes maxL ret (Cond.code y bytes maxL ret :: zW) { frames := fr, cells := 0, slots := 0, locals := lo } 0 0 n ∧ (Cond.static y).before args s = true :=
  ⟨callB_of n hts (z_good hm.1) rfl rfl rfl (hts _ hm.2.1) (hts _ hl) hm.2.2.2 hR, hts _ hm.2.2.1⟩
theorem z_cwN {own : String} {index : Nat} {y : MethodName} {bytes : ByteArray} {maxL n fr lo : Nat} {ret : Option FieldType} (hts : ∀ w ∈ zW, w.before args s = true) (hm : zSW y bytes maxL ret n) (hl : va_Nw (.methodLinkNest own index y "SquareCode") s) (hR : fr + 1 ≤ R.frames ∧ 8 + (maxL + 11) + lo ≤ R.locals) : va_CN R s args own index y "SquareCode" bytes maxL ret (Cond.code y bytes maxL ret :: zW) { frames := fr, cells := 0, slots := 0, locals := lo } 0 0 n ∧ (Cond.static y).before args s = true ∧ True :=
  ⟨va_cnB n hts (z_good hm.1) rfl rfl rfl hl (hts _ hm.2.1) hm.2.2.2 hR, hts _ hm.2.2.1, trivial⟩
theorem z_cwI {own : String} {index : Nat} {y : MethodName} {bytes : ByteArray} {maxL n fr ce sl lo : Nat} (hts : ∀ w ∈ zW, w.before args s = true) (hm : zIW y bytes maxL n) (hl : Cond.methodLink own index y ∈ zW) (hR : fr + 1 ≤ R.frames ∧ 8 + (maxL + 11) + lo ≤ R.locals) : CallB R s args own index y bytes maxL none (Cond.code y bytes maxL none :: zW) { frames := fr, cells := ce, slots := sl, locals := lo } ce sl n ∧ y.name = "<init>" ∧ (Cond.instanceMethod y).before args s = true :=
  ⟨callB_of n hts (z_good hm.1) rfl rfl rfl (hts _ hm.2.1) (hts _ hl) hm.2.2.2.2 hR, hm.2.2.2.1, hts _ hm.2.2.1⟩
theorem z_min (hexec : p.tables.exec = Jvm.exec) (hb : c.code = cc) (hml : c.maxLocals = ls.size) {own : String} {index : Nat} (hown : s.vm.findClass own = some m.cls) (hlink : (Cond.methodLink own index Lib.Math.min.name).before args s = true) (hstat : (Cond.static Lib.Math.min.name).before args s = true) (hini : (Cond.initialized "java/lang/Math").before args s = true) (hcode : (Cond.code Lib.Math.min.name Lib.Math.min.code 2 (some .int)).before args s = true)
    (hframes : 1 ≤ R.frames) (hlocals : (rest.map fun v => v.category).sum + 13 ≤ R.locals) (hc : cells ≤ R.cells) (hs : slots ≤ R.slots) {x y : Int32} (hdg : decode cc pc = .ok (.invokestatic index, 3))
    (kk : W p l e R s m args below meth c H locs cells slots Q (F0 m (pc + 3) ls (.int (zmin x y) :: rest))) : W p l e R s m args below meth c H locs cells slots Q (F0 m pc ls (.int y :: .int x :: rest)) := va_mmin hexec hb hml hown hlink hstat hini hcode hframes hlocals hc hs hdg kk
theorem z_max (hexec : p.tables.exec = Jvm.exec) (hb : c.code = cc) (hml : c.maxLocals = ls.size) {own : String} {index : Nat} (hown : s.vm.findClass own = some m.cls) (hlink : (Cond.methodLink own index Lib.Math.max.name).before args s = true) (hstat : (Cond.static Lib.Math.max.name).before args s = true) (hini : (Cond.initialized "java/lang/Math").before args s = true) (hcode : (Cond.code Lib.Math.max.name Lib.Math.max.code 2 (some .int)).before args s = true)
    (hframes : 1 ≤ R.frames) (hlocals : (rest.map fun v => v.category).sum + 13 ≤ R.locals) (hc : cells ≤ R.cells) (hs : slots ≤ R.slots) {x y : Int32} (hdg : decode cc pc = .ok (.invokestatic index, 3))
    (kk : W p l e R s m args below meth c H locs cells slots Q (F0 m (pc + 3) ls (.int (zmax x y) :: rest))) : W p l e R s m args below meth c H locs cells slots Q (F0 m pc ls (.int y :: .int x :: rest)) := va_mmax hexec hb hml hown hlink hstat hini hcode hframes hlocals hc hs hdg kk
end ZRows
