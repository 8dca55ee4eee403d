section CWS
variable {p : Program} {l : Launch} {e : Env} {R : Room} {s : State} {m : MethodId} {args : Array Value} {below : List Frame} {meth : Method} {c : Code} {Q : State → Prop} {D : va_G} {A : Nat → Prop} {dT : Nat → ClassId} {cells slots nL pc : Nat} {ws ws' : List va_W} {lv lv' : List (Nat × Value)} {st : List Value} {cc : ByteArray} {own : String} {ret : Option FieldType} {aK aV : Nat → Nat}
abbrev HH : Type := List (Nat × Nat × Nat × Nat)
def mwsW (y : MethodName) (cb : ByteArray) (n : Nat) (ret : Option FieldType) (hh : HH) : List Cond := .codeWith y cb n ret hh :: lw_good
theorem mt_ofWH {y : MethodName} {ws ws' : List Cond} {rm : Room} {Pc : Array Value → State → Prop} {Qc : Array Value → State → Outcome → State → Prop} {mc ms : Nat} {free : Addr → Prop} {cc : ByteArray} {maxL : Nat} {ret : Option FieldType} {hh : HH}
    (hy : plainName y.cls = true) (hw : ws = Cond.codeWith y cc maxL ret hh :: ws')
    (body : ∀ p e s m args below meth c s₁, BodyLoose p l y (headSpec ws rm) cc maxL ret e s m args below meth c s₁ → c.maxLocals = maxL → Pc args s →
      W p l e (headSpec ws rm).room s m args below meth c s.heap [] 0 0 (MQ below Qc args s mc ms free) (entryFrame m args maxL)) : Met l y ws rm Pc Qc mc ms free := by
  refine MetFree.of_bodyS (code := cc) (maxLocals := maxL) (ret := ret) hy ?_ ?_
  · intro args s m h hn
    obtain ⟨m9, meth, c, hn9, h1, h2, h3, h4, -, h5, h6, -⟩ := Cond.codeWith_spec (atoms_spec (ws := ws) h _ (by rw [hw]; exact List.mem_cons_self))
    cases hn.symm.trans hn9
    exact ⟨meth, c, h1, h2, h3, h4, h5, h6⟩
  · intro p e s m args below meth c s₁ B hml hP _
    have hh0 : s₁.heap = s.heap := by rw [B.state]; rfl
    obtain ⟨t, a1, o, b1, b2, b3⟩ := body p e s m args below meth c s₁ B hml hP s₁ hh0 (Stand.of_body B)
    exact ⟨t, o, a1, b1, b2, ⟨b3.1, b3.2⟩⟩
/-- a wrapper: answers r, leaves W1 u for some u with G u -/
def CWi (aK aV : Nat → Nat) (l : Launch) (y : MethodName) (cb : ByteArray) (n : Nat) (hh : HH) (rm : Room) (D : va_G) (dT : Nat → ClassId) (av : List Value) (w0 : List va_W) {S : Type} (G : S → Prop) (W1 : S → List va_W) (r : Int32) (mc ms : Nat) : Prop := ∀ sz, Met l y (mwsW y cb n (some .int) hh) rm (PX aK aV D dT w0 sz av) (va_Qi (fun r9 u => r9 = r ∧ G u) (fun u t => WB D dT (bA w0 sz) (W1 u) t) (bA w0 sz)) mc ms (bA w0 sz)
theorem CWi.of {y : MethodName} {cb : ByteArray} {n mc ms : Nat} {hh : HH} {rm : Room} {av : List Value} {w0 : List va_W} {S : Type} {G : S → Prop} {W1 : S → List va_W} {r : Int32} {lv0 : List (Nat × Value)} (hy : plainName y.cls = true) (hlen : (lg_sl av).length ≤ n) (hlv : lv_args 0 av = lv0)
    (body : ∀ p e s m args below meth c A, Cx p s m args meth c cb n y.cls (some .int) D A dT → AMX aK aV A s s.heap → c.exceptionTable.toList = tableOf hh → WA p l e rm s m args below meth c (MQ below (va_Qi (fun r9 u => r9 = r ∧ G u) (fun u t => WB D dT A (W1 u) t) A) args s mc ms A) D A 0 0 n 0 w0 lv0 []) : CWi aK aV l y cb n hh rm D dT av w0 G W1 r mc ms := by
  intro sz
  refine mt_ofWH (cc := cb) (maxL := n) (ret := some .int) (hh := hh) hy rfl ?_
  intro p e s m args below meth c s₁ B hml hv
  obtain ⟨rfl, hsz, hP, hK, hD0, hE⟩ := hv
  have hts := atoms_spec (ws := mwsW y cb n (some .int) hh) B.pre
  have htab : c.exceptionTable.toList = tableOf hh := vx_table (x := y) B (hts _ List.mem_cons_self)
  subst hsz
  have hC : Cx p s m av.toArray meth c cb n y.cls (some .int) D (bA w0 s.heap.size) dT := ⟨B.exec, B.bytes, hml, findClass_of_methodNamed B.named, fun w h => hts w (List.mem_cons_of_mem _ h), hK, fun q h => Or.inr h, B.returns, B.notSynchronized⟩
  have h9 := body p e s m av.toArray below meth c (bA w0 s.heap.size) hC hE htab
  rw [lg_entry_eq]
  exact h9 s.heap [] _ hP (va_D.self (sz := s.heap.size) hD0) va_S.rf (hlv ▸ lv_entry av hlen)
/-- thrown by the call, caught by the first row of the table -/
theorem wx_catch1 (C : Cx p s m args meth c cc nL own ret D A dT) (E : AMX aK aV A s s.heap) {hh : HH} (htab : c.exceptionTable.toList = tableOf hh) (x : ExceptionTableEntry) (suf : List ExceptionTableEntry) (hsp : tableOf hh = x :: suf) {y : MethodName} {cb : ByteArray} {nY na idx ci b1 q1 : Nat} {w9 : va_W} {fs : List Value} {T9 : u_T} {N9 : Nat} {rY : Option FieldType} {rm : Room} {As st0 : List Value} {b : Nat} {wc : List va_W} {E9 : String} (hdg : decode cc pc = .ok (.invokevirtual idx, 3)) (hk : KV own idx y cb nY rY na) (hM : CX aK aV l y cb nY rY rm D dT (.ref b :: As) wc E9) (hc0 : rm.cells = 1 ∧ rm.slots = 6) (hR : rm.frames + 1 ≤ R.frames ∧ 8 + (nY + 11) + rm.locals ≤ R.locals) (hrc : vwCl[ci]? = some (y.cls, T9, N9)) (hr9 : ws[b1]? = some w9) (hre : w9[q1]? = some (b, .inr (ci, fs))) (isC isR isF : List Nat) (hC : bsub isC ws wc) (hRr : bsub isR ws (isR.filterMap (fun i => ws[i]?))) (hnC : va_nd isC = true) (hnR : va_nd isR = true) (hdj : ∀ i ∈ isR, i ∉ isC) (hnF : va_nd isF = true) (hF : bsub isF (isR.filterMap (fun i => ws[i]?) ++ wc) ws) (hna : As.length = na) (hst : st0 = As.reverse ++ .ref b :: st) (hcs : cells + 1 ≤ R.cells ∧ slots + 6 ≤ R.slots) (hW : (st.map fun v => v.category).sum ≤ 8)
    (hcov : covers x pc = true) (h0 : x.catchType ≠ 0) (hlink : Cond.classLink own x.catchType E9 ∈ lw_good) (hcast : Cond.castable E9 E9 ∈ lw_tbl) (k : ∀ q9 : Nat, WA p l e R s m args below meth c Q D A (cells + 1) (slots + 6) nL x.handlerPc ws lv [.ref q9]) : WA p l e R s m args below meth c Q D A cells slots nL pc ws lv st0 :=
  wx_runV C E hdg hk hM hc0 hR hrc hr9 hre isC isR isF hC hRr hnC hnR hdj hnF hF hna hst hcs hW (fun _ q9 H1 locs1 ls hP hD hS hl hce hcv hcl => vx_catch C.2.2.2.1 [] x suf (htab.trans hsp) (fun z hz => nomatch hz) hcov h0 (C.2.2.2.2.1 _ hlink) (TH.at E.2.1 hcast rfl rfl) hce hcv hcl (k q9 H1 locs1 ls hP hD hS hl))
/-- thrown by the call, an IllegalArgumentException, caught by the second row of the table: the first names the other class -/
theorem wx_catch2 (C : Cx p s m args meth c cc nL own ret D A dT) (E : AMX aK aV A s s.heap) {hh : HH} (htab : c.exceptionTable.toList = tableOf hh) (z x : ExceptionTableEntry) (suf : List ExceptionTableEntry) (hsp : tableOf hh = z :: x :: suf) {y : MethodName} {cb : ByteArray} {nY na idx ci b1 q1 : Nat} {w9 : va_W} {fs : List Value} {T9 : u_T} {N9 : Nat} {rY : Option FieldType} {rm : Room} {As st0 : List Value} {b : Nat} {wc : List va_W} (hdg : decode cc pc = .ok (.invokevirtual idx, 3)) (hk : KV own idx y cb nY rY na) (hM : CX aK aV l y cb nY rY rm D dT (.ref b :: As) wc nIAE) (hc0 : rm.cells = 1 ∧ rm.slots = 6) (hR : rm.frames + 1 ≤ R.frames ∧ 8 + (nY + 11) + rm.locals ≤ R.locals) (hrc : vwCl[ci]? = some (y.cls, T9, N9)) (hr9 : ws[b1]? = some w9) (hre : w9[q1]? = some (b, .inr (ci, fs))) (isC isR isF : List Nat) (hC : bsub isC ws wc) (hRr : bsub isR ws (isR.filterMap (fun i => ws[i]?))) (hnC : va_nd isC = true) (hnR : va_nd isR = true) (hdj : ∀ i ∈ isR, i ∉ isC) (hnF : va_nd isF = true) (hF : bsub isF (isR.filterMap (fun i => ws[i]?) ++ wc) ws) (hna : As.length = na) (hst : st0 = As.reverse ++ .ref b :: st) (hcs : cells + 1 ≤ R.cells ∧ slots + 6 ≤ R.slots) (hW : (st.map fun v => v.category).sum ≤ 8)
    (hz0 : z.catchType ≠ 0) (hzl : Cond.classLink own z.catchType nNSE ∈ lw_good) (hcov : covers x pc = true) (h0 : x.catchType ≠ 0) (hlink : Cond.classLink own x.catchType nIAE ∈ lw_good) (hcast : Cond.castable nIAE nIAE ∈ lw_tbl) (k : ∀ q9 : Nat, WA p l e R s m args below meth c Q D A (cells + 1) (slots + 6) nL x.handlerPc ws lv [.ref q9]) : WA p l e R s m args below meth c Q D A cells slots nL pc ws lv st0 :=
  wx_runV C E hdg hk hM hc0 hR hrc hr9 hre isC isR isF hC hRr hnC hnR hdj hnF hF hna hst hcs hW (fun _ q9 H1 locs1 ls hP hD hS hl hce hcv hcl => vx_catch C.2.2.2.1 [z] x suf (htab.trans hsp) (fun z9 hz9 => by
    rw [List.mem_singleton] at hz9
    subst hz9
    exact Or.inr ⟨hz0, nNSE, C.2.2.2.2.1 _ hzl, E.2.2⟩) hcov h0 (C.2.2.2.2.1 _ hlink) (TH.at E.2.1 hcast rfl rfl) hce hcv hcl (k q9 H1 locs1 ls hP hD hS hl))
theorem cast1 : Cond.castable nNSE nNSE ∈ lw_tbl := by decide +kernel
theorem cast2 : Cond.castable nIAE nIAE ∈ lw_tbl := by decide +kernel
end CWS
