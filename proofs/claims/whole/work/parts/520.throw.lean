/-! throws of an exception whose own constructor passes on by any index (follows the library's proof of Stand.ctorThrowS, with one pass more in front) -/
def nxA (own : String) (ic : Nat) (X : String) (ip : Nat) (bp : ByteArray) : List Cond :=
  Bundle.throwableAtoms ++ Bundle.throwableSAtoms ++ Bundle.passSAtoms X "java/lang/RuntimeException" ip bp ++ Bundle.chainSAtoms "java/lang/RuntimeException" ["java/lang/Exception"] ++
  [.methodLink own ic (Bundle.initS X), .instantiable X 6, .selects X Bundle.tFill0 Bundle.tFill0, .selects X Bundle.tFill Bundle.tFill,
   .lays X Bundle.tN "cause" "Ljava/lang/Throwable;", .lays X Bundle.tN "stackTrace" Bundle.steD, .lays X Bundle.tN "suppressedExceptions" Bundle.listD, .lays X Bundle.tN "detailMessage" "Ljava/lang/String;",
   .isRef (.static Bundle.tN "UNASSIGNED_STACK" Bundle.steD), .isRef (.static Bundle.tN "SUPPRESSED_SENTINEL" Bundle.listD),
   .fieldLink Bundle.tN 198 Bundle.tN "backtrace" "Ljava/lang/Object;", .lays Bundle.tN Bundle.tN "backtrace" "Ljava/lang/Object;", .lays X Bundle.tN "backtrace" "Ljava/lang/Object;"]
section NXC
variable {p : Program} {l : Launch} {e : Env} {R : Room} {s : State} {m₀ : MethodId} {args : Array Value} {below : List Frame} {meth : Method} {c : Code} {Wn : State} {locs : List Loc} {cells slots : Nat}
set_option maxHeartbeats 1000000 in
theorem nx_ctor (X : Stand p l e R s m₀ args below meth c Wn locs cells slots) (hexec : p.tables.exec = Jvm.exec) (htr : e.platform.stackTraces = false) {own cls : String} {ic ip : Nat} {bp : ByteArray}
    (hown : s.vm.findClass own = some m₀.cls) (hcls : Bundle.fit cls = true)
    (b0 : decode bp 0 = .ok (.aload_n 0, 1)) (b1 : decode bp 1 = .ok (.aload_n 1, 1)) (b2 : decode bp 2 = .ok (.invokespecial ip, 3)) (b5 : decode bp 5 = .ok (.return_, 1))
    (h : ∀ a ∈ nxA own ic cls ip bp, a.before args s = true)
    (hlocs : ∀ x ∈ locs, ∀ cell, s.heap[x.base]? = some cell → cell.vm.isStatics = false)
    {a : Addr} {cX : ClassId} {kX : Class} (hfoundX : s.vm.findClass cls = some cX) (hkX : s.vm.classes[cX]? = some kX) (hcell : Wn.heap[a]? = some (freshCell cX kX)) (hnew : s.heap.size ≤ a)
    {msg : Value} (hmsg : msg.isRef = true)
    {g : JFrame} (hg : g.method = m₀) (hsize : g.locals.size = c.maxLocals) (hlocked : g.locked = none) (hentered : g.entered = []) {rest : List Value} (hstack : g.stack = msg :: .ref a :: .ref a :: rest)
    (hd6 : decode c.code g.pc = .ok (.invokespecial ic, 3)) (hd9 : decode c.code (g.pc + 3) = .ok (.athrow, 1)) (hout : ∀ x ∈ c.exceptionTable.toList, covers x (g.pc + 3) = false)
    (hRframes : 5 < R.frames) (hRlocals : 2 * g.monitorRoom + ((Value.ref a :: rest).map fun v => v.category).sum + 81 ≤ R.locals) (hlocks : meth.locks = false) :
    ∃ U : State, Steps p.tables e below (Wn.setTop g) U ∧ U.status = .running ∧ Ended U below (.threw a) ∧ s.WarmedH U.vm ∧ s.sameButNew ({ U with vm := s.vm } : State) locs cells slots ∧
      ∃ ce : Cell, U.heap[a]? = some ce ∧ ce.vm = .none ∧ s.vm.findClass cls = some ce.cls := by
  have howns : e.platform.frameOwnsMonitors = true := by rw [X.admits.platform]
  have hfin : e.platform.finalization = false := by rw [X.admits.platform]
  have hpl : e.platform.magicAccessors = ({} : Platform).magicAccessors := by rw [X.admits.platform]
  have a' : ∀ x, x ∈ nxA own ic cls ip bp → x.holds args s none s [] = true := fun x hx => h x hx
  obtain ⟨T, Z0, L, -, Y⟩ := ThrowableC.of_atoms (args := args) howns hfin hpl (fun x hx => h x (by simp [nxA, hx]))
  obtain ⟨Z, M, LZ, LM, hnZ⟩ := Init0T.ofS_atoms (args := args) hpl L Y (fun x hx => h x (by simp [nxA, hx]))
  obtain ⟨P2, Ps, hlen, L2, hL, hP2m, hlink2, hlinkP⟩ := Bundle.chainS (args := args) hpl hnZ ["java/lang/Exception"] "java/lang/RuntimeException" (by decide) (by decide) (fun x hx => h x (by simp only [nxA, List.mem_append]; exact Or.inl (Or.inr hx)))
  obtain ⟨P1, L1, hP1m, hP1s⟩ := PassC.ofS_atoms (args := args) (s := s) hpl (X := cls) (Y := "java/lang/RuntimeException") (Bundle.fit_spec hcls).1 (by decide) b0 b1 b2 b5 (fun x hx => h x (by simp only [nxA, List.mem_append]; exact Or.inl (Or.inl (Or.inr hx))))
  have hlink1 : P1.sup = P2.m := Option.some.inj (hP1s.symm.trans hP2m)
  have hfound : s.vm.findClass cls = some P1.m.cls := findClass_of_methodNamed hP1m
  cases Option.some.inj (hfoundX.symm.trans hfound)
  obtain ⟨c1, kX', hc1, hk, hord, -, -, hn6⟩ := Cond.instantiable_spec (a' (.instantiable cls 6) (by simp [nxA]))
  cases Option.some.inj (hc1.symm.trans hfound)
  cases Option.some.inj (hkX.symm.trans hk)
  have hsel0 : selectMethod e.platform s.vm P1.m.cls T.fill0 = .method T.fill0 := by
    obtain ⟨c2, r2, m2, q1, q2, q3, q4, -⟩ := Cond.selects_spec (a' (.selects cls Bundle.tFill0 Bundle.tFill0) (by simp [nxA]))
    cases Option.some.inj (q1.symm.trans hfound)
    cases Option.some.inj (q2.symm.trans (State.methodFound?_of_named Y.fill0 (by decide)))
    cases Option.some.inj (q3.symm.trans Y.fill0)
    rw [Launch.admits_selectMethod X.admits]; exact q4
  have hselF : selectMethod e.platform s.vm P1.m.cls T.fill = .method T.fill := by
    obtain ⟨c2, r2, m2, q1, q2, q3, q4, -⟩ := Cond.selects_spec (a' (.selects cls Bundle.tFill Bundle.tFill) (by simp [nxA]))
    cases Option.some.inj (q1.symm.trans hfound)
    cases Option.some.inj (q2.symm.trans (State.methodFound?_of_named Y.fill (by decide)))
    cases Option.some.inj (q3.symm.trans Y.fill)
    rw [Launch.admits_selectMethod X.admits]; exact q4
  obtain ⟨cellS0, hcS0, hiss⟩ := Y.statics
  obtain ⟨u0, hu0⟩ := Cond.staticRefV Y.unassigned L.unassignedStatic L.statics hcS0 hiss (a' (.isRef (.static Bundle.tN "UNASSIGNED_STACK" Bundle.steD)) (by simp [nxA]))
  obtain ⟨sen, hsen⟩ := Cond.staticRefV Y.sentinel L.sentinelStatic L.statics hcS0 hiss (a' (.isRef (.static Bundle.tN "SUPPRESSED_SENTINEL" Bundle.listD)) (by simp [nxA]))
  obtain ⟨ci198, i198, fB, hk198, hg198, ha198, hsB, -, hnB, htB, hffB⟩ := Cond.ownField (t := .object "java/lang/Object") Y.found L.cls (by decide +kernel) (a' (.fieldLink Bundle.tN 198 Bundle.tN "backtrace" "Ljava/lang/Object;") (by simp [nxA])) (a' (.lays Bundle.tN Bundle.tN "backtrace" "Ljava/lang/Object;") (by simp [nxA])) e.platform hpl
  obtain ⟨cellS, hcS', heS, -, hkeep⟩ := X.same.2.2.2.2.2 T.aS cellS0 hcS0
  have hcellS : Wn.heap[T.aS]? = some cellS := hcS'
  have hout' : ∀ i, (⟨T.aS, i⟩ : Loc) ∉ locs := fun i hmem => by
    have := hlocs _ hmem cellS0 hcS0
    rw [hiss] at this; cases this
  have hknownS : cellS.vm ≠ .unknown := by
    rw [heS]; intro hu
    rw [show cellS0.vm = .unknown from hu] at hiss
    cases hiss
  have hneS : T.aS ≠ a := Nat.ne_of_lt (Nat.lt_of_lt_of_le (Array.getElem?_eq_some_iff.mp hcS0).1 hnew)
  obtain ⟨iM, hffM⟩ := Y.msg
  obtain ⟨tyC, dC, hdC, hdnC⟩ := Cond.laysAt hfound hk Y.cause (a' (.lays cls Bundle.tN "cause" "Ljava/lang/Throwable;") (by simp [nxA]))
  obtain ⟨tyS, dS, hdS, hdnS⟩ := Cond.laysAt hfound hk Y.stack (a' (.lays cls Bundle.tN "stackTrace" Bundle.steD) (by simp [nxA]))
  obtain ⟨tyP, dP, hdP, hdnP⟩ := Cond.laysAt hfound hk Y.supp (a' (.lays cls Bundle.tN "suppressedExceptions" Bundle.listD) (by simp [nxA]))
  obtain ⟨tyM, dM, hdM, hdnM⟩ := Cond.laysAt hfound hk hffM (a' (.lays cls Bundle.tN "detailMessage" "Ljava/lang/String;") (by simp [nxA]))
  obtain ⟨tyB, dB, hdB, hdnB⟩ := Cond.laysAt hfound hk hffB (a' (.lays cls Bundle.tN "backtrace" "Ljava/lang/Object;") (by simp [nxA]))
  have bC := Cond.laysApart hdB hdC hdnB hdnC (by rw [hnB, Y.causeName]; decide)
  have bS := Cond.laysApart hdB hdS hdnB hdnS (by rw [hnB, Y.stackName]; decide)
  have bP9 := Cond.laysApart hdB hdP hdnB hdnP (by rw [hnB, Y.suppName]; decide)
  have hskip : SkipFacts T e.platform s (fun u => u) u0 ((preparedCellV T.toThrowableT (freshCell P1.m.cls kX) a u0 sen).withEntry Wn.cur) :=
    ⟨{ ci198 := ci198, i198 := i198, fBack := fB }, ⟨hk198, hg198, ha198, hsB⟩, by
      have := fresh_default (c := P1.m.cls) tyB
      rw [htB] at this
      simpa [preparedCellV, Cell.setSlot, Cell.withEntry, Array.getElem?_setIfInBounds, bC, bS, bP9, bC.symm, bS.symm, bP9.symm, defaultValue] using this, fun _ _ => rfl⟩
  obtain ⟨tm, methC, cdC, kC, vm₁, hnC, -, -, -, -, -, -, -, hW₁, st1⟩ := Steps.initColdS (tb := p.tables) (e := e) (below := below) (s := s) (U := Wn) X.here hexec X.warmed hpl hown (t := Bundle.initS cls) rfl rfl (Bundle.fit_spec hcls).2
    (a' (.methodLink own ic (Bundle.initS cls)) (by simp [nxA])) (h (.instanceMethod (Bundle.initS cls)) (by simp [nxA, Bundle.passSAtoms])) (bytes := bp) (maxL := 2) (h (.code (Bundle.initS cls) bp 2 none) (by simp [nxA, Bundle.passSAtoms]))
    (f := g) hg (a := a) (msg := msg) (rest := .ref a :: rest) hstack hd6
  cases Option.some.inj (hnC.symm.trans hP1m)
  have X₁ := X.noted hW₁
  obtain ⟨vm₂, X₂, st2⟩ := X₁.ctorMessageOffV hexec (g := { g with stack := .ref a :: rest }) hg hsize T L Z LZ M LM (P1 :: P2 :: Ps)
    (fun P hP => by rcases List.mem_cons.mp hP with rfl | hP; exact L1; rcases List.mem_cons.mp hP with rfl | hP; exact L2; exact hL P hP) ⟨hlink1, hlink2, hlinkP⟩ (u0 := u0) (sen := sen) (self := a) hmsg (cell := freshCell P1.m.cls kX) (cellS := cellS)
    hcell (fun _ => by simp) (by simp) rfl rfl hsel0 hselF hcellS hneS hknownS (by rw [hkeep _ (hout' _)]; exact hu0) (by rw [hkeep _ (hout' _)]; exact hsen)
    (Takes.of_laid hk hord tyC (by rw [Y.causeType]; rfl)) (Takes.of_laid hk hord tyS (by rw [Y.stackType]; exact fits_refV_array _ u0)) (Takes.of_laid hk hord tyP (by rw [Y.suppType]; exact fits_refV_object _ sen))
    (Takes.of_laid hk hord tyM (by rw [Y.msgType]; exact fits_refV_object _ ⟨msg, hmsg⟩)) Y.objLocals hskip htr [] hd6
    (by simp only [List.length_cons, hlen, List.length_nil]; omega) (by simp only [List.length_cons, hlen, List.length_nil]; exact hRlocals)
  obtain ⟨hwalk, hrun, hended, hWU, hsame⟩ := X₂.athrowLeaves hexec (g := { g with stack := .ref a :: rest, pc := g.pc + 3 }) hg hlocked hentered hout (a := a) (rest := rest) rfl hd9
  have hlt : a < ((Wn.setVm vm₁).setVm vm₂).heap.size := (Array.getElem?_eq_some_iff.mp hcell).1
  have hU := heapAt_setCell_self (s := (Wn.setVm vm₁).setVm vm₂) (plainBareV T.toThrowableT (freshCell P1.m.cls kX) a u0 sen msg) hlt
  refine ⟨_, st1 _ (fun acts => ?_), hrun, hended, hWU, hsame.weaken (fun y hy hlt' => ?_) (Nat.le_refl _) (Nat.le_refl _), _, hU, rfl, hfound⟩
  · rw [doInvoke_state]
    exact st2 _ hwalk
  · rcases List.mem_append.mp hy with h1 | h1
    · exact h1
    · exfalso
      have hb : y.base = a := by
        simp only [List.mem_cons, List.not_mem_nil, or_false] at h1
        rcases h1 with rfl | rfl | rfl | rfl | rfl <;> rfl
      rw [hb] at hlt'
      exact Nat.not_lt.mpr hnew hlt'
end NXC
section NXW
variable {p : Program} {l : Launch} {e : Env} {R : Room} {s : State} {m : MethodId} {args : Array Value} {below : List Frame} {meth : Method} {c : Code} {H : Heap} {locs : List Loc} {cells slots : Nat}
variable {Qc : Array Value → State → Outcome → State → Prop} {XC : String → State → State → Prop} {free : Addr → Prop} {mc ms : Nat} {ls : Array Slot} {rest : List Value} {Q : State → Prop}
/-- 'throw new E("text")' -/
theorem nx_throw {cc : ByteArray} {pc : Nat} (hexec : p.tables.exec = Jvm.exec) (hb : c.code = cc) (hl : l.stackTraces = false) {own cls text : String} {ik is ic ip sa k9 : Nat} {bp : ByteArray} {A : Nat → Prop}
    (hown : s.vm.findClass own = some m.cls) (hcls : Bundle.fit cls = true)
    (b0 : decode bp 0 = .ok (.aload_n 0, 1)) (b1 : decode bp 1 = .ok (.aload_n 1, 1)) (b2 : decode bp 2 = .ok (.invokespecial ip, 3)) (b5 : decode bp 5 = .ok (.return_, 1))
    (hk : (Cond.classLink own ik cls).before args s = true) (hini : (Cond.initialized cls).before args s = true) (hstr : vk_R own is text sa s) (hat : ∀ w ∈ (nxA own ic cls ip bp).filter vx_no, w.before args s = true)
    (hgood : ∀ w ∈ Cond.classLink own ik cls :: Cond.initialized cls :: (nxA own ic cls ip bp).filter vx_no, vx_ot w = true)
    (hU : vx_Zq Bundle.tN "UNASSIGNED_STACK" Bundle.steD A s s.heap) (hN : vx_Zq Bundle.tN "SUPPRESSED_SENTINEL" Bundle.listD A s s.heap) (hS : va_S A s.heap H locs) (hsize : ls.size = c.maxLocals)
    (d0 : decode cc pc = .ok (.new ik, 3)) (d3 : decode cc (pc + 3) = .ok (.dup, 1)) (d4 : (decode cc (pc + 4) = .ok (.ldc is, 2) ∧ k9 = 2) ∨ (decode cc (pc + 4) = .ok (.ldc_w is, 3) ∧ k9 = 3)) (d6 : decode cc (pc + 4 + k9) = .ok (.invokespecial ic, 3)) (d9 : decode cc (pc + 4 + k9 + 3) = .ok (.athrow, 1))
    (hout : ∀ x ∈ c.exceptionTable.toList, covers x (pc + 4 + k9 + 3) = false)
    (hRframes : 5 < R.frames) (hRlocals : (rest.map fun v => v.category).sum + 82 ≤ R.locals) (hRcells : cells + 1 ≤ R.cells) (hRslots : slots + 6 ≤ R.slots) (hlocks : meth.locks = false)
    (hx : ∀ t : State, s.vm.Alike t.vm → H.size ≤ t.heap.size → (∀ q : Nat, q < H.size → t.heap[q]? = H[q]?) → XC cls s t)
    (hf : ∀ z ∈ locs, free z.base) (hc : cells + 1 ≤ mc) (hs : slots + 6 ≤ ms) :
    W p l e R s m args below meth c H locs cells slots (vx_MQ below Qc XC args s mc ms free) (F0 m pc ls rest) := by
  intro T hT X
  have htr : e.platform.stackTraces = false := (show e.platform.stackTraces = l.stackTraces by rw [X.admits.platform]).trans hl
  have Y := vx_rebase X (R' := { frames := R.frames, locals := R.locals, cells := 1, slots := 6 }) (Nat.le_refl _) (Nat.le_refl _) hRcells hRslots
  obtain ⟨s', hA⟩ : ∃ z, z = (T.setVm s.vm).setFrames (.invoking m args :: below) := ⟨_, rfl⟩
  rw [← hA] at Y
  have hvm : s'.vm = s.vm := by rw [hA]; rfl
  have hhp : s'.heap = H := by rw [hA]; exact hT
  have hW0 : s.WarmedH s'.vm := by rw [hvm]; exact State.WarmedH.refl s
  have hat' : ∀ w ∈ (nxA own ic cls ip bp).filter vx_no, w.before args s' = true := fun w hw => vx_ot_at hW0 hvm.symm (hgood w (List.mem_cons_of_mem _ (List.mem_cons_of_mem _ hw))) (hat w hw)
  have hk' : (Cond.classLink own ik cls).before args s' = true := vx_ot_at hW0 hvm.symm (hgood _ List.mem_cons_self) hk
  have hini' : (Cond.initialized cls).before args s' = true := vx_ot_at hW0 hvm.symm (hgood _ (List.mem_cons_of_mem _ List.mem_cons_self)) hini
  have hU' : vx_Zq Bundle.tN "UNASSIGNED_STACK" Bundle.steD A s' s'.heap := by rw [hhp]; exact vx_Zq.moved hW0.alike (hU.kept hS.2.1)
  have hN' : vx_Zq Bundle.tN "SUPPRESSED_SENTINEL" Bundle.listD A s' s'.heap := by rw [hhp]; exact vx_Zq.moved hW0.alike (hN.kept hS.2.1)
  have h : ∀ w ∈ nxA own ic cls ip bp, w.before args s' = true := vx_own hat' (vx_isRefq hU'.1) (vx_isRefq hN'.1) hU'.2.word hN'.2.word
  have hown' : s'.vm.findClass own = some m.cls := by rw [hvm]; exact hown
  have hins : (Cond.instantiable cls 6).before args s' = true := h _ (by simp [nxA])
  obtain ⟨vm₁, cX, kX, hfX, hkX, -, -, X₁, st1⟩ := Y.newCold hexec (own := own) (C := cls) (index := ik) (n := 6) hown' hk' hins hini'
    (g := F0 m pc ls rest) rfl (by rw [hb]; exact d0) (Nat.le_refl _) (Nat.le_refl _)
  generalize hT1 : (T.setVm vm₁).pushCell { cls := cX, slots := kX.instanceTypes.map defaultValue, vm := .none } = T1 at X₁ st1
  have hcat : (Value.ref T.heap.size).category = 1 := rfl
  have hcellA : T1.heap[T.heap.size]? = some (freshCell cX kX) := by rw [← hT1]; exact State.heap_pushCell_size _ _
  have d3' : decode c.code (pc + 3) = .ok (.dup, 1) := by rw [hb]; exact d3
  have hstr' : vk_R own is text sa s' := vk_R.warm hW0 hstr
  obtain ⟨U, hsteps, hrun, hend, hW, hsame, ce, hce, hcv, hcl9⟩ := nx_ctor X₁ hexec htr (own := own) (cls := cls) (ic := ic) hown' hcls b0 b1 b2 b5 h (fun x hx => nomatch hx) hfX hkX hcellA (by rw [hhp, hT]; exact Nat.le_refl _) (msg := .ref sa) rfl
    (g := { method := m, pc := pc + 4 + k9, locals := ls, stack := .ref sa :: .ref T.heap.size :: .ref T.heap.size :: rest, locked := none }) rfl hsize rfl rfl (rest := rest) rfl
    (by rw [hb]; exact d6) (by rw [hb]; exact d9) hout hRframes (by simp only [List.map_cons, List.sum_cons, hcat, JFrame.monitorRoom]; simp; omega) hlocks
  obtain ⟨f1, f2⟩ := vx_frame hsame
  rw [hhp] at f1 f2
  have hWs : s.WarmedH U.vm := State.WarmedH.trans hW0 hW
  have hcl : s.vm.findClass cls = some ce.cls := by
    rw [hvm] at hcl9
    exact hcl9
  have hall : s.sameButNew ({ U with vm := s.vm } : State) locs mc ms := by
    subst hA
    obtain ⟨e1, e2⟩ := hsame
    rw [State.setFrames_setFrames] at e1
    have h2 : (T.setVm s.vm).sameButNew ({ U with vm := s.vm } : State) [] (0 + 1) (0 + 6) := ⟨e1, e2⟩
    have h3 := X.same.trans h2
    rw [List.append_nil] at h3
    exact h3.mono hc hs
  refine ⟨U, ?_, .threw T.heap.size, hrun, hend, Or.inr ⟨T.heap.size, rfl, cls, ce, locs, hx U hWs.alike f1 (fun q hq => f2 q hq (fun z hz => nomatch hz)), hce, hcv, hcl, hWs, hall, hf⟩⟩
  refine st1 _ ?_
  show Steps p.tables e below (T1.setTop { method := m, pc := pc + 3, locals := ls, stack := .ref T.heap.size :: rest, locked := none }) _
  jvm_step X₁.here [X₁.here.top, hexec, d3', Value.category]
  rcases d4 with ⟨d4, rfl⟩ | ⟨d4, rfl⟩
  · have d4' : decode c.code (pc + 4) = .ok (.ldc is, 2) := by rw [hb]; exact d4
    exact X₁.ldcString hexec (own := own) (text := text) (index := is) (a := sa) hown' hstr'.1 hstr'.2
      (g := { method := m, pc := pc + 4, locals := ls, stack := .ref T.heap.size :: .ref T.heap.size :: rest, locked := none }) rfl d4' _ hsteps
  · have d4' : decode c.code (pc + 4) = .ok (.ldc_w is, 3) := by rw [hb]; exact d4
    exact X₁.ldcStringW hexec (own := own) (text := text) (index := is) (a := sa) hown' hstr'.1 hstr'.2
      (g := { method := m, pc := pc + 4, locals := ls, stack := .ref T.heap.size :: .ref T.heap.size :: rest, locked := none }) rfl d4' _ hsteps
/-- behind a call that throws for sure -/
theorem nx_call {SX : Type} {px : SX → Prop} {BX : String → SX → State → Prop} {A0 AX : Nat → Prop} {H0 : Heap} {pc : Nat} {st0 : List Value} (hr : vx_Run p l e R s m args below meth c H locs cells slots mc ms (F0 m pc ls st0) rest (fun _ _ _ => False) (vx_X px BX AX) free) (hS : va_S A0 H0 H locs) (hf : ∀ q, free q → A0 q) (hAX : ∀ q, q < H.size → AX q → A0 q)
    (kx : ∀ (E : String) (ce : Cell) (q9 : Addr) (u : SX) (t : State) (H1 : Heap) (locs1 : List Loc), t.heap = H1 → s.vm.Alike t.vm → px u → BX E u t → H.size ≤ H1.size → (∀ q : Nat, q < H.size → ¬ AX q → H1[q]? = H[q]?) → va_S A0 H0 H1 locs1 → H1[q9]? = some ce → ce.vm = .none → s.vm.findClass E = some ce.cls → vx_W p l e R s m args below meth c H1 locs1 (cells + mc) (slots + ms) Q (F0 m pc ls rest) q9) : W p l e R s m args below meth c H locs cells slots Q (F0 m pc ls st0) := by
  intro T hT X
  rcases hr T hT X with ⟨v, st₀, t, T', L, h0, X', hL, e1, e2, hF, st⟩ | ⟨q, st₀, t, T', L, E, ce, h0, X', hL, e1, e2, ⟨u, hp, hb, hF⟩, hce, hcv, hcl, st⟩
  · exact hF.elim
  · obtain ⟨k1, k2, k3⟩ := vx_keep h0 e1 hS hAX hf hL hF
    obtain ⟨t2, a1, b1⟩ := kx E ce q u t T'.heap (locs ++ L) e1.symm (by rw [← e2]; exact X'.warmed.alike) hp hb k1 k2 k3 (by rw [e1]; exact hce) hcv hcl T' rfl X'
    exact ⟨t2, st.trans a1, b1⟩
end NXW
/-! what surrounds a walk that may throw -/
def TH (U : State) : Prop := ∀ w ∈ lw_tbl, w.onTables = true → w.keepsFace = true → w.before #[] U = true
theorem TH.warm {s U : State} (hW : s.WarmedH U.vm) (h : TH s) : TH U := fun w hw h1 h2 => va_tabs h1 (rfl : (s.setVm U.vm).vm = U.vm) (Cond.before_shiftedFace (State.Shifted.of_warmed hW) w h2 (h w hw h1 h2))
theorem TH.same {u U : State} (hv : U.vm = u.vm) (h : TH u) : TH U := fun w hw h1 h2 => va_tabs h1 hv.symm (h w hw h1 h2)
theorem TH.at {s : State} {args : Array Value} {w : Cond} (h : TH s) (hw : w ∈ lw_tbl) (h1 : w.onTables = true) (h2 : w.keepsFace = true) : w.before args s = true := va_tabs h1 rfl (h w hw h1 h2)
def nNSE : String := "java/util/NoSuchElementException"
def nIAE : String := "java/lang/IllegalArgumentException"
def nmE (k : Nat) : String := if k = 1 then nNSE else nIAE
def AMX (aK aV : Nat → Nat) (A : Nat → Prop) (U : State) (H : Heap) : Prop := AMB aK aV A U H ∧ TH U ∧ va_Nc nIAE nNSE U
theorem AMX.same {aK aV : Nat → Nat} {A : Nat → Prop} {u U : State} {H : Heap} (hv : U.vm = u.vm) (h : AMX aK aV A u H) : AMX aK aV A U H := ⟨AMB.same hv h.1, TH.same hv h.2.1, va_Nc.moved (by rw [hv]; exact Vm.Alike.refl _) h.2.2⟩
theorem AMX.call {aK aV : Nat → Nat} {A B : Nat → Prop} {s U : State} {H : Heap} {locs : List Loc} (h : AMX aK aV A s s.heap) (hS : va_S A s.heap H locs) (hB : ∀ q, B q → A q) (hW : s.WarmedH U.vm) : AMX aK aV B U H := ⟨AMB.call h.1 hS hB hW, TH.warm hW h.2.1, va_Nc.moved hW.alike h.2.2⟩
/-- the words of a throw lie in the tables -/
def NXT (own : String) (ic : Nat) (X : String) (ip : Nat) (bp : ByteArray) : Prop := ∀ w ∈ (nxA own ic X ip bp).filter vx_no, w ∈ lw_tbl ∧ w.onTables = true ∧ w.keepsFace = true
theorem NXT.of {own : String} {ic : Nat} {X : String} {ip : Nat} {bp : ByteArray} (h : ((nxA own ic X ip bp).filter vx_no).all (fun w => decide (w ∈ lw_tbl) && (w.onTables && w.keepsFace)) = true) : NXT own ic X ip bp := fun w hw => by
  have h9 := List.all_eq_true.mp h w hw
  simp only [Bool.and_eq_true, decide_eq_true_eq] at h9
  exact h9
section NXX
variable {p : Program} {l : Launch} {e : Env} {R : Room} {s : State} {m : MethodId} {args : Array Value} {below : List Frame} {meth : Method} {c : Code} {Q : State → Prop} {D : va_G} {A : Nat → Prop} {dT : Nat → ClassId} {cells slots nL pc : Nat} {ws ws' : List va_W} {lv lv' : List (Nat × Value)} {st : List Value} {cc : ByteArray} {own : String} {ret : Option FieldType} {aK aV : Nat → Nat}
def PX (aK aV : Nat → Nat) (D : va_G) (dT : Nat → ClassId) (w : List va_W) (sz : Nat) (av : List Value) : Array Value → State → Prop := va_Pc av (fun U => U.heap.size = sz ∧ bP D w U.heap ∧ va_K D vwCl (tyL dT) U ∧ bD (fun _ => True) w ∧ AMX aK aV (bA w sz) U U.heap)
theorem PX.blind {w : List va_W} {sz : Nat} {av : List Value} : FrameBlind (PX aK aV D dT w sz av) := fun a U g mk q => by
  obtain ⟨q0, q1, qP, qK, qD, qE⟩ := q
  exact ⟨q0, q1, qP, va_K.moved (u := U) (U := U.calling g mk a) (Vm.Alike.refl U.vm) qK, qD, AMX.same (u := U) rfl qE⟩
/-- thrown: E, the world w as it was -/
def XE (D : va_G) (dT : Nat → ClassId) (A : Nat → Prop) (w : List va_W) (E : String) : String → State → State → Prop := vx_X (fun _ : Unit => True) (fun E9 _ t => E9 = E ∧ WB D dT A w t) A
/-- called with av in the world w0 the method throws an E; the world stays -/
def CX (aK aV : Nat → Nat) (l : Launch) (y : MethodName) (cb : ByteArray) (n : Nat) (ret : Option FieldType) (rm : Room) (D : va_G) (dT : Nat → ClassId) (av : List Value) (w0 : List va_W) (E : String) : Prop := ∀ sz, vx_Met l y (mws y cb n ret) rm (PX aK aV D dT w0 sz av) (fun _ _ _ _ => False) (XE D dT (bA w0 sz) w0 E) 1 6 (bA w0 sz)
theorem CX.of {y : MethodName} {cb : ByteArray} {n : Nat} {rm : Room} {av : List Value} {w0 : List va_W} {E : String} {lv0 : List (Nat × Value)} (hy : plainName y.cls = true) (hlen : (lg_sl av).length ≤ n) (hlv : lv_args 0 av = lv0)
    (body : ∀ p e s m args below meth c A, Cx p s m args meth c cb n y.cls ret D A dT → AMX aK aV A s s.heap → (∀ x ∈ c.exceptionTable.toList, False) → WA p l e rm s m args below meth c (vx_MQ below (fun _ _ _ _ => False) (XE D dT A w0 E) args s 1 6 A) D A 0 0 n 0 w0 lv0 []) : CX aK aV l y cb n ret rm D dT av w0 E := by
  intro sz
  refine vx_ofW (cc := cb) (maxL := n) (ret := ret) hy rfl ?_
  intro p e s m args below meth c s₁ B hml htab hv
  obtain ⟨rfl, hsz, hP, hK, hD0, hE⟩ := hv
  have hts := atoms_spec (ws := mws y cb n ret) B.pre
  subst hsz
  have hC : Cx p s m av.toArray meth c cb n y.cls ret D (bA w0 s.heap.size) dT := ⟨B.exec, B.bytes, hml, findClass_of_methodNamed B.named, fun w h => hts w (List.mem_cons_of_mem _ h), hK, fun q h => Or.inr h, B.returns, B.notSynchronized⟩
  have h9 := body p e s m av.toArray below meth c (bA w0 s.heap.size) hC hE htab
  rw [lg_entry_eq]
  exact h9 s.heap [] _ hP (va_D.self (sz := s.heap.size) hD0) va_S.rf (hlv ▸ lv_entry av hlen)
theorem XE.at {w : List va_W} {E : String} {H : Heap} {locs : List Loc} {t : State} (hK : va_K D vwCl (tyL dT) s) (hP : bP D w H) (hD : bD A w) (hS : va_S A s.heap H locs) (hv : s.vm.Alike t.vm) (h1 : H.size ≤ t.heap.size) (h2 : ∀ q : Nat, q < H.size → t.heap[q]? = H[q]?) : XE D dT A w E E s t := by
  refine ⟨(), trivial, ⟨rfl, ?_, va_K.moved hv hK, hD⟩, ?_⟩
  · exact fun k9 q hq => (hP k9 q hq).kept (h2 q.1 (hP k9 q hq).lt)
  · exact ⟨Nat.le_trans hS.1 h1, fun q hq hA => by rw [h2 q (Nat.lt_of_lt_of_le hq hS.1)]; exact hS.2.1 q hq hA⟩
theorem wx_throw {Qc : Array Value → State → Outcome → State → Prop} (C : Cx p s m args meth c cc nL own ret D A dT) (E : AMX aK aV A s s.heap) (hl : l.stackTraces = false) (ht : ∀ x ∈ c.exceptionTable.toList, False) {cls text : String} {ik is ic ip k9 mc ms : Nat} {bp : ByteArray} (j : Nat)
    (d0 : decode cc pc = .ok (.new ik, 3)) (d3 : decode cc (pc + 3) = .ok (.dup, 1)) (d4 : (decode cc (pc + 4) = .ok (.ldc is, 2) ∧ k9 = 2) ∨ (decode cc (pc + 4) = .ok (.ldc_w is, 3) ∧ k9 = 3)) (d6 : decode cc (pc + 4 + k9) = .ok (.invokespecial ic, 3)) (d9 : decode cc (pc + 4 + k9 + 3) = .ok (.athrow, 1))
    (hj : ownS[j]? = some (own, is, text)) (hcls : Bundle.fit cls = true) (b0 : decode bp 0 = .ok (.aload_n 0, 1)) (b1 : decode bp 1 = .ok (.aload_n 1, 1)) (b2 : decode bp 2 = .ok (.invokespecial ip, 3)) (b5 : decode bp 5 = .ok (.return_, 1))
    (hk : Cond.classLink own ik cls ∈ lw_good) (hini : Cond.initialized cls ∈ lw_good) (hT : NXT own ic cls ip bp) (hRf : 5 < R.frames) (hRl : (st.map fun v => v.category).sum + 82 ≤ R.locals) (hRc : cells + 1 ≤ R.cells) (hRs : slots + 6 ≤ R.slots) (hc : cells + 1 ≤ mc) (hs : slots + 6 ≤ ms) :
    WA p l e R s m args below meth c (vx_MQ below Qc (XE D dT A ws cls) args s mc ms A) D A cells slots nL pc ws lv st := by
  intro H locs ls hP hD hS hl9
  refine nx_throw C.1 C.2.1 hl C.2.2.2.1 hcls b0 b1 b2 b5 (C.2.2.2.2.1 _ hk) (C.2.2.2.2.1 _ hini) (E.1.2.1 j _ hj) (fun w hw => TH.at E.2.1 (hT w hw).1 (hT w hw).2.1 (hT w hw).2.2) (fun w hw => ?_) E.1.2.2.2.2.1 E.1.2.2.2.2.2 hS (by rw [C.2.2.1]; exact hl9.1) d0 d3 d4 d6 d9 (fun x hx => (ht x hx).elim) hRf hRl hRc hRs C.2.2.2.2.2.2.2.2 (fun t hv h1 h2 => XE.at C.2.2.2.2.2.1 hP hD hS hv h1 h2) hS.2.2 hc hs
  rcases List.mem_cons.mp hw with rfl | hw
  · rfl
  · rcases List.mem_cons.mp hw with rfl | hw
    · rfl
    · unfold vx_ot
      rw [(hT w hw).2.1]
      rfl
/-- a call of an instance's method that throws -/
theorem wx_runV (C : Cx p s m args meth c cc nL own ret D A dT) (E : AMX aK aV A s s.heap) {y : MethodName} {cb : ByteArray} {nY na idx ci b1 q1 : Nat} {w9 : va_W} {fs : List Value} {T9 : u_T} {N9 : Nat} {rY : Option FieldType} {rm : Room} {As st0 : List Value} {b : Nat} {wc : List va_W} {E9 : String} (hdg : decode cc pc = .ok (.invokevirtual idx, 3)) (hk : KV own idx y cb nY rY na) (hM : CX aK aV l y cb nY rY rm D dT (.ref b :: As) wc E9) (hc0 : rm.cells = 1 ∧ rm.slots = 6) (hR : rm.frames + 1 ≤ R.frames ∧ 8 + (nY + 11) + rm.locals ≤ R.locals) (hrc : vwCl[ci]? = some (y.cls, T9, N9)) (hr9 : ws[b1]? = some w9) (hre : w9[q1]? = some (b, .inr (ci, fs))) (isC isR isF : List Nat) (hC : bsub isC ws wc) (hRr : bsub isR ws (isR.filterMap (fun i => ws[i]?))) (hnC : va_nd isC = true) (hnR : va_nd isR = true) (hdj : ∀ i ∈ isR, i ∉ isC) (hnF : va_nd isF = true) (hF : bsub isF (isR.filterMap (fun i => ws[i]?) ++ wc) ws) (hna : As.length = na) (hst : st0 = As.reverse ++ .ref b :: st) (hcs : cells + 1 ≤ R.cells ∧ slots + 6 ≤ R.slots) (hW : (st.map fun v => v.category).sum ≤ 8)
    (k : ∀ (ce : Cell) (q9 : Addr) (H1 : Heap) (locs1 : List Loc) (ls : Array Slot), bP D ws H1 → bD A ws → va_S A s.heap H1 locs1 → lv_has ls nL lv → H1[q9]? = some ce → ce.vm = .none → s.vm.findClass E9 = some ce.cls → vx_W p l e R s m args below meth c H1 locs1 (cells + 1) (slots + 6) Q (F0 m pc ls st) q9) : WA p l e R s m args below meth c Q D A cells slots nL pc ws lv st0 := by
  subst hst
  intro H locs ls hP hD hS hl
  have hA := C.2.2.2.2.2.2.1
  have hK := C.2.2.2.2.2.1
  have hPc := bP.cut hP hC
  have hDc : bD A wc := bD.cut hD hnC hC
  have hFc : ∀ q, bA wc H.size q → A q := bA_free hD hS hA hC
  refine nx_call (vx_runV (As := As) (rest := st) ⟨C.1, C.2.1, C.2.2.1, C.2.2.2.1, C.2.2.2.2.1⟩ (hM H.size) (cwV na C.2.2.2.2.1 hk.1 rfl hc0.1 hc0.2 hk.2 hR) ⟨PX.blind, va_recv hK hP hrc (flat_get hr9 hre), fun U hU hW => ⟨rfl, by rw [hU], by rw [hU]; exact hPc, va_K.moved hW.alike hK, bD.weaken hDc (fun _ _ => trivial), by rw [hU]; exact AMX.call E hS hFc hW⟩⟩ rfl hna hl.1 rfl (lv_room hW) hdg hcs) hS hFc (fun q _ h => hFc q h) (fun E8 ce q9 u t H1 locs1 ht hv _ hB hz1 hk1 hS1 hce hcv hcl => ?_)
  obtain ⟨rfl, hP1, hK1, hD1⟩ := hB
  rw [ht] at hP1
  obtain ⟨hP2, hD2⟩ := b_join hP hD hC hRr hnR hdj hk1 hFc hP1 hD1
  exact k ce q9 H1 locs1 ls (bP.cut hP2 hF) (bD.cut hD2 hnF hF) hS1 hl hce hcv hcl
/-- .. and nobody here catches it -/
theorem wx_callV {Qc : Array Value → State → Outcome → State → Prop} (C : Cx p s m args meth c cc nL own ret D A dT) (E : AMX aK aV A s s.heap) (ht : ∀ x ∈ c.exceptionTable.toList, False) {y : MethodName} {cb : ByteArray} {nY na idx ci b1 q1 mc ms : Nat} {w9 : va_W} {fs : List Value} {T9 : u_T} {N9 : Nat} {rY : Option FieldType} {rm : Room} {As st0 : List Value} {b : Nat} {wc : List va_W} {E9 : String} (hdg : decode cc pc = .ok (.invokevirtual idx, 3)) (hk : KV own idx y cb nY rY na) (hM : CX aK aV l y cb nY rY rm D dT (.ref b :: As) wc E9) (hc0 : rm.cells = 1 ∧ rm.slots = 6) (hR : rm.frames + 1 ≤ R.frames ∧ 8 + (nY + 11) + rm.locals ≤ R.locals) (hrc : vwCl[ci]? = some (y.cls, T9, N9)) (hr9 : ws[b1]? = some w9) (hre : w9[q1]? = some (b, .inr (ci, fs))) (isC isR isF : List Nat) (hC : bsub isC ws wc) (hRr : bsub isR ws (isR.filterMap (fun i => ws[i]?))) (hnC : va_nd isC = true) (hnR : va_nd isR = true) (hdj : ∀ i ∈ isR, i ∉ isC) (hnF : va_nd isF = true) (hF : bsub isF (isR.filterMap (fun i => ws[i]?) ++ wc) ws) (hna : As.length = na) (hst : st0 = As.reverse ++ .ref b :: st) (hcs : cells + 1 ≤ R.cells ∧ slots + 6 ≤ R.slots) (hW : (st.map fun v => v.category).sum ≤ 8) (hc : cells + 1 ≤ mc) (hs : slots + 6 ≤ ms) :
    WA p l e R s m args below meth c (vx_MQ below Qc (XE D dT A ws E9) args s mc ms A) D A cells slots nL pc ws lv st0 :=
  wx_runV C E hdg hk hM hc0 hR hrc hr9 hre isC isR isF hC hRr hnC hnR hdj hnF hF hna hst hcs hW (fun ce q9 H1 locs1 ls hP hD hS _ hce hcv hcl => vx_out (fun x hx => (ht x hx).elim) C.2.2.2.2.2.2.2.2 hce hcv hcl (fun t hth hv => XE.at C.2.2.2.2.2.1 hP hD hS hv (by rw [hth]; exact Nat.le_refl _) (fun q _ => by rw [hth])) hS.2.2 hc hs)
/-- a call of a static method of numbers that throws, nobody here catches it -/
theorem wx_callS {Qc : Array Value → State → Outcome → State → Prop} (C : Cx p s m args meth c cc nL own ret D A dT) (E : AMX aK aV A s s.heap) (ht : ∀ x ∈ c.exceptionTable.toList, False) {y : MethodName} {cb : ByteArray} {nY na idx mc ms : Nat} {rY : Option FieldType} {rm : Room} {As st0 : List Value} {E9 : String} (hdg : decode cc pc = .ok (.invokestatic idx, 3)) (hk : KS own idx y cb nY rY na) (hM : CX aK aV l y cb nY rY rm D dT As [] E9) (hc0 : rm.cells = 1 ∧ rm.slots = 6) (hR : rm.frames + 1 ≤ R.frames ∧ 8 + (nY + 11) + rm.locals ≤ R.locals) (hna : As.length = na) (hst : st0 = As.reverse ++ st) (hcs : cells + 1 ≤ R.cells ∧ slots + 6 ≤ R.slots) (hW : (st.map fun v => v.category).sum ≤ 8) (hc : cells + 1 ≤ mc) (hs : slots + 6 ≤ ms) :
    WA p l e R s m args below meth c (vx_MQ below Qc (XE D dT A ws E9) args s mc ms A) D A cells slots nL pc ws lv st0 := by
  subst hst
  intro H locs ls hP hD hS hl
  have hA := C.2.2.2.2.2.2.1
  have hK := C.2.2.2.2.2.1
  have hPc := (show bP D [] H from fun k q h => by simp at h)
  have hDc : bD A [] := (show va_D A [] from ⟨fun i j p q h => by simp at h, fun k q h => by simp at h⟩)
  have hFc : ∀ q, bA [] H.size q → A q := fun q hq => hq.elim (fun ⟨k, e9, hk9⟩ => by simp at hk9) (fun h9 => hA q (Nat.le_trans hS.1 h9))
  refine nx_call (vx_runS (As := As) (rest := st) ⟨C.1, C.2.1, C.2.2.1, C.2.2.2.1, C.2.2.2.2.1⟩ (hM H.size) ⟨callB_of na C.2.2.2.2.1 hk.1 rfl hc0.1 hc0.2 (C.2.2.2.2.1 _ hk.2.2.2.1) (C.2.2.2.2.1 _ hk.2.1) hk.2.2.2.2 hR, C.2.2.2.2.1 _ hk.2.2.1⟩ ⟨PX.blind, fun U hU hW => ⟨rfl, by rw [hU], by rw [hU]; exact hPc, va_K.moved hW.alike hK, bD.weaken hDc (fun _ _ => trivial), by rw [hU]; exact AMX.call E hS hFc hW⟩⟩ rfl hna hl.1 rfl (lv_room hW) hdg hcs) hS hFc (fun q _ h => hFc q h) (fun E8 ce q9 u t H1 locs1 ht9 hv _ hB hz1 hk1 hS1 hce hcv hcl => ?_)
  obtain ⟨rfl, hP1, hK1, hD1⟩ := hB
  have hP2 : bP D ws H1 := fun k9 q hq => (hP k9 q hq).kept (hk1 q.1 (hP k9 q hq).lt (fun h => h.elim (fun ⟨_, _, h⟩ => by simp at h) (fun h => absurd (hP k9 q hq).lt (Nat.not_lt.mpr h))))
  exact vx_out (fun x hx => (ht x hx).elim) C.2.2.2.2.2.2.2.2 hce hcv hcl (fun t hth hv => XE.at C.2.2.2.2.2.1 hP2 hD hS1 hv (by rw [hth]; exact Nat.le_refl _) (fun q _ => by rw [hth])) hS1.2.2 hc hs
end NXX
