section WAC
variable {p : Program} {l : Launch} {e : Env} {R : Room} {s : State} {m : MethodId} {args : Array Value} {below : List Frame} {meth : Method} {c : Code} {Q : State → Prop} {D : va_G} {A : Nat → Prop} {dT : Nat → ClassId} {cells slots nL pc : Nat} {ws ws' : List va_W} {lv lv' : List (Nat × Value)} {st : List Value} {cc : ByteArray} {own : String} {ret : Option FieldType}
theorem flat_one {bs : List va_W} {x : Nat × va_E} : (bs ++ [[x]]).flatten = bs.flatten ++ [x] := by simp
theorem wa_widen {k n : Nat} (h1 : cells ≤ k) (h2 : slots ≤ n) (kk : WA p l e R s m args below meth c Q D A k n nL pc ws lv (st)) : WA p l e R s m args below meth c Q D A cells slots nL pc ws lv (st) := fun H locs ls hP hD hS hl => W.widen h1 h2 (kk H locs ls hP hD hS hl)
theorem wa_new (C : Cx p s m args meth c cc nL own ret D A dT) {C9 : String} {T : u_T} {N ci index : Nat} (n1 : Nat) {fs : List Value} (ty : Nat → FieldType) (hdg : decode cc pc = .ok (.new index, 3)) (hn : pc + 3 = n1) (hin : ∀ w ∈ u_ws C9 T N, w ∈ lw_good) (hty : ∀ k, k < N → parseFieldDescriptor (T k).2.2.1 = some (ty k)) (hcl : Cond.classLink own index C9 ∈ lw_good) (hinst : Cond.instantiable C9 N ∈ lw_good) (hini : Cond.initialized C9 ∈ lw_good) (hc : vwCl[ci]? = some (C9, T, N)) (hfs : ∀ j, j < N → defaultValue (ty j) = vp_V fs j) (hcells : cells + 1 ≤ R.cells) (hslots : slots + N ≤ R.slots) (k : ∀ q : Nat, WA p l e R s m args below meth c Q D A (cells + 1) (slots + N) nL n1 (ws ++ [[(q, .inr (ci, fs))]]) lv (.ref q :: st)) : WA p l e R s m args below meth c Q D A cells slots nL pc ws lv (st) := by
  subst hn
  intro H locs ls hP hD hS hl
  refine va_new C.1 C.2.1 C.2.2.2.2.1 hin ty hty C.2.2.2.1 (C.2.2.2.2.1 _ hcl) (C.2.2.2.2.1 _ hinst) (C.2.2.2.2.1 _ hini) C.2.2.2.2.2.1 hP hD hS C.2.2.2.2.2.2.1 hc hfs hcells hslots hdg (fun q H1 hP1 hD1 hS1 => ?_)
  exact k q H1 locs ls (by unfold bP; rw [flat_one]; exact hP1) (by unfold bD; rw [flat_one]; exact hD1) hS1 hl
/-- the class of an array of a type is one -/
theorem tyL_one {t : Nat} {ty : FieldType} {cA : ClassId} (hp : ∀ C9, ty ≠ .object C9) (h : (tyL dT)[t]? = some (dT t, ty)) (hK : va_K D vwCl (tyL dT ++ [(cA, ty)]) s) : cA = dT t := by
  have h1 := (hK.2 t (dT t, ty) (by rw [List.getElem?_append_left (List.getElem?_eq_some_iff.mp h).1]; exact h)).2
  have h2 := (hK.2 (tyL dT).length (cA, ty) (by simp)).2
  unfold va_RA at h1 h2
  cases ty <;> simp_all
theorem tyL_oneR {t : Nat} {C9 : String} {cA : ClassId} (h : (tyL dT)[t]? = some (dT t, .object C9)) (hK : va_K D vwCl (tyL dT ++ [(cA, .object C9)]) s) : cA = dT t := by
  have h1 := (hK.2 t (dT t, .object C9) (by rw [List.getElem?_append_left (List.getElem?_eq_some_iff.mp h).1]; exact h)).2
  have h2 := (hK.2 (tyL dT).length (cA, .object C9) (by simp)).2
  obtain ⟨_, _, _, _, _, h3⟩ := h1
  obtain ⟨_, _, _, _, _, h4⟩ := h2
  exact Option.some.inj (h4.symm.trans h3)
theorem wa_newa (C : Cx p s m args meth c cc nL own ret D A dT) {atype : ArrayType} {ty : FieldType} {n : Int32} {N' : Nat} {a0 : vp_A} (n1 t : Nat) (hdg : decode cc pc = .ok (.newarray atype, 2)) (hn : pc + 2 = n1) (harr : Cond.arrayClass (newarray.typeOf atype) ∈ lw_good) (hty : newarray.typeOf atype = ty) (hp : ∀ C9, ty ≠ .object C9) (ht : (tyL dT)[t]? = some (dT t, ty)) (ha : ∀ cA : ClassId, vp_cell cA a0 = arrV cA N' (fun _ => defaultValue ty)) (hn0 : ¬ n < 0) (hN : n.toNatClampNeg = N') (hbytes : N' * componentBytes ty ≤ 536870912) (hcells : cells + 1 ≤ R.cells) (hslots : slots + N' ≤ R.slots) (k : ∀ q : Nat, WA p l e R s m args below meth c Q D A (cells + 1) (slots + N') nL n1 (ws ++ [[(q, .inl (dT t, a0))]]) lv (.ref q :: st)) : WA p l e R s m args below meth c Q D A cells slots nL pc ws lv (.int n :: st) := by
  subst hn
  intro H locs ls hP hD hS hl
  refine va_newa C.1 C.2.1 (C.2.2.2.2.1 _ harr) hty C.2.2.2.2.2.1 hP hD hS C.2.2.2.2.2.2.1 ha hn0 hN hbytes hcells hslots hdg (fun q cA H1 hK1 hP1 hD1 hS1 => ?_)
  have e9 := tyL_one hp ht hK1
  subst e9
  exact k q H1 locs ls (by unfold bP; rw [flat_one]; exact hP1) (by unfold bD; rw [flat_one]; exact hD1) hS1 hl
theorem wa_newq (C : Cx p s m args meth c cc nL own ret D A dT) {C9 : String} {index : Nat} {n : Int32} {N' : Nat} (n1 t : Nat) (hdg : decode cc pc = .ok (.anewarray index, 3)) (hn : pc + 3 = n1) (hcl : Cond.classLink own index C9 ∈ lw_good) (hover : va_AO C9 s) (ht : (tyL dT)[t]? = some (dT t, .object C9)) (hn0 : ¬ n < 0) (hN : n.toNatClampNeg = N') (hbytes : N' * 4 ≤ 536870912) (hcells : cells + 1 ≤ R.cells) (hslots : slots + N' ≤ R.slots) (k : ∀ q : Nat, WA p l e R s m args below meth c Q D A (cells + 1) (slots + N') nL n1 (ws ++ [[(q, .inl (dT t, N', .inr (.inr (.inr (.inr (fun _ => none))))))]]) lv (.ref q :: st)) : WA p l e R s m args below meth c Q D A cells slots nL pc ws lv (.int n :: st) := by
  subst hn
  intro H locs ls hP hD hS hl
  refine va_newq C.1 C.2.1 C.2.2.2.1 (C.2.2.2.2.1 _ hcl) hover C.2.2.2.2.2.1 hP hD hS C.2.2.2.2.2.2.1 hn0 hN hbytes hcells hslots hdg (fun q cA H1 hK1 hP1 hD1 hS1 => ?_)
  have e9 := tyL_oneR ht hK1
  subst e9
  exact k q H1 locs ls (by unfold bP; rw [flat_one]; exact hP1) (by unfold bD; rw [flat_one]; exact hD1) hS1 hl
theorem wa_objInit (C : Cx p s m args meth c cc nL own ret D A dT) {a idx : Nat} (n1 : Nat) (hdg : decode cc pc = .ok (.invokespecial idx, 3)) (hn : pc + 3 = n1) (h1 : Cond.methodLink own idx Lib.objectInit ∈ lw_good) (h2 : Cond.instanceMethod Lib.objectInit ∈ lw_good) (h3 : Cond.code Lib.objectInit ⟨#[0xb1]⟩ 1 none ∈ lw_good) (hf : 1 ≤ R.frames) (hl9 : (st.map fun v => v.category).sum + 12 ≤ R.locals) (k : WA p l e R s m args below meth c Q D A cells slots nL n1 ws lv (st)) : WA p l e R s m args below meth c Q D A cells slots nL pc ws lv (.ref a :: st) := by
  subst hn
  intro H locs ls hP hD hS hl
  refine W.objInit (rest := st) C.1 C.2.1 C.2.2.2.1 (C.2.2.2.2.1 _ h1) (C.2.2.2.2.1 _ h2) (C.2.2.2.2.1 _ h3) rfl (by rw [C.2.2.1]; exact hl.1) rfl hdg hf (by simpa [JFrame.monitorRoom] using hl9) ?_
  exact W.eq (g2 := F0 m (pc + 3) ls st) rfl (k H locs ls hP hD hS hl)
theorem wa_putF (C : Cx p s m args meth c cc nL own ret D A dT) {C9 : String} {T : u_T} {N ci index a : Nat} (n1 : Nat) (b0 q0 : Nat) {w0 : va_W} {fs : List Value} (k0 : Nat) {v : Value} (ty0 : Nat → FieldType) (hdg : decode cc pc = .ok (.putfield index, 3)) (hn : pc + 3 = n1) (hin : ∀ w ∈ u_ws C9 T N, w ∈ lw_good) (hty : ∀ k, k < N → parseFieldDescriptor (T k).2.2.1 = some (ty0 k)) (hnm : ∀ a, a < N → ∀ b, b < N → a ≠ b → (T a).2.1 ≠ (T b).2.1) (hlink : Cond.fieldLink own index (T k0).1 (T k0).2.1 (T k0).2.2.1 ∈ lw_good) (hc : vwCl[ci]? = some (C9, T, N)) (hk : k0 < N) (hfin : (T k0).2.2.2 = true) (hin2 : meth.name = "<init>") (hdecl : (T k0).1 = own) (hb0 : ws[b0]? = some w0) (he : w0[q0]? = some (a, .inr (ci, fs))) (hn9 : narrow (ty0 k0) v = v) (hfit : fits (ty0 k0) v = true) (hl9 : k0 < fs.length) (hw : ws.set b0 (w0.set q0 (a, .inr (ci, fs.set k0 v))) = ws') (k : WA p l e R s m args below meth c Q D A cells slots nL n1 ws' lv (st)) : WA p l e R s m args below meth c Q D A cells slots nL pc ws lv (v :: .ref a :: st) := by
  subst hn; subst hw
  exact fun H locs ls hP hD hS hl => va_putF C.1 C.2.1 C.2.2.2.2.1 hin ty0 hty hnm C.2.2.2.1 C.2.2.2.2.2.1 hP hD hS (bix ws b0 q0) (flat_get hb0 he) hc k0 hk (C.2.2.2.2.1 _ hlink) (fun _ h9 => h9) hfin hin2 hdecl (hty k0 hk) hn9 hfit hl9 hdg (fun H1 locs1 hP hD hS => by rw [flat_set hb0 (List.getElem?_eq_some_iff.mp he).1] at hP hD; exact k H1 locs1 ls hP hD hS hl)
/-- a constructor: called with av in the world w0 it leaves W1 u for some u with G u; mc cells of ms slots come -/
def CTn (l : Launch) (y : MethodName) (cb : ByteArray) (n : Nat) (rm : Room) (D : va_G) (dT : Nat → ClassId) (av : List Value) (w0 : List va_W) {S : Type} (G : S → Prop) (W1 : S → List va_W) (mc ms : Nat) : Prop := ∀ sz, Met l y (mws y cb n none) rm (PC D dT w0 sz av) (va_Qv G (fun u t => WB D dT (bA w0 sz) (W1 u) t) (bA w0 sz)) mc ms (bA w0 sz)
theorem CTn.of {y : MethodName} {cb : ByteArray} {n mc ms : Nat} {rm : Room} {av : List Value} {w0 : List va_W} {S : Type} {G : S → Prop} {W1 : S → List va_W} {lv0 : List (Nat × Value)} (hy : plainName y.cls = true) (hi : y.name = "<init>") (hlen : (lg_sl av).length ≤ n) (hlv : lv_args 0 av = lv0)
    (body : ∀ p e s m args below meth c A, Cx p s m args meth c cb n y.cls none D A dT → meth.name = "<init>" → WA p l e rm s m args below meth c (MQ below (va_Qv G (fun u t => WB D dT A (W1 u) t) A) args s mc ms A) D A 0 0 n 0 w0 lv0 []) : CTn l y cb n rm D dT av w0 G W1 mc ms := by
  intro sz
  refine Met.ofW (cc := cb) (maxL := n) (ret := none) hy rfl ?_
  intro p e s m args below meth c s₁ B hml hv
  obtain ⟨rfl, hsz, hP, hK, hD0⟩ := hv
  have hts := atoms_spec (ws := mws y cb n none) B.pre
  subst hsz
  have hC : Cx p s m av.toArray meth c cb n y.cls none D (bA w0 s.heap.size) dT := ⟨B.exec, B.bytes, hml, findClass_of_methodNamed B.named, fun w h => hts w (List.mem_cons_of_mem _ h), hK, fun q h => Or.inr h, B.returns, B.notSynchronized⟩
  have hnm : meth.name = "<init>" := (name_of_methodNamed B.named B.method).1.trans hi
  have h9 := body p e s m av.toArray below meth c (bA w0 s.heap.size) hC hnm
  rw [lg_entry_eq]
  exact h9 s.heap [] _ hP (va_D.self (sz := s.heap.size) hD0) va_S.rf (hlv ▸ lv_entry av hlen)
theorem wa_nret {S : Type} {G : S → Prop} {W1 : S → List va_W} {mc ms : Nat} (C : Cx p s m args meth c cc nL own none D A dT) (u : S) (hdg : decode cc pc = .ok (.return_, 1)) (hg : G u) (hw : ws.flatten = (W1 u).flatten) : WA p l e R s m args below meth c (MQ below (va_Qv G (fun u t => WB D dT A (W1 u) t) A) args s mc ms A) D A mc ms nL pc ws lv [] := by
  intro H locs ls hP hD hS hl
  unfold bP at hP
  unfold bD at hD
  rw [hw] at hP hD
  exact W.vret C.1 C.2.1 C.2.2.2.2.2.2.2.1 (fun t ht hW => ⟨⟨u, rfl, hg, by rw [ht]; exact hP, va_K.moved hW.alike C.2.2.2.2.2.1, hD⟩, hS.F ht⟩) hS.2.2 hdg C.2.2.2.2.2.2.2.2
def KI (own : String) (idx : Nat) (y : MethodName) (cb : ByteArray) (n : Nat) (na : Nat) : Prop := GoodIn lw_good (mws y cb n none) ∧ Cond.methodLink own idx y ∈ lw_good ∧ Cond.instanceMethod y ∈ lw_good ∧ Cond.initialized y.cls ∈ lw_good ∧ (y.cls ≠ "java/lang/invoke/MethodHandle" ∧ y.cls ≠ "java/lang/invoke/VarHandle" ∧ (parseMethodDescriptor y.desc).map (fun d => d.parameters.length) = some na)
theorem KI.mk {own : String} {idx : Nat} {y : MethodName} {cb : ByteArray} {n na : Nat} (h1 : Cond.methodLink own idx y ∈ lw_good) (h2 : Cond.instanceMethod y ∈ lw_good) (h4 : Cond.initialized y.cls ∈ lw_good) (h5 : Cond.code y cb n none ∈ lw_good) (h6 : y.cls ≠ "java/lang/invoke/MethodHandle" ∧ y.cls ≠ "java/lang/invoke/VarHandle" ∧ (parseMethodDescriptor y.desc).map (fun d => d.parameters.length) = some na) : KI own idx y cb n na := ⟨gd_all (fun w hw => by
  unfold mws at hw
  simp only [List.mem_cons] at hw
  rcases hw with rfl | hw <;> assumption), h1, h2, h4, h6⟩
/-- a call of a constructor: the callee's blocks at isC, the rest at isR; behind it the rest, then the callee's -/
theorem wa_callI (C : Cx p s m args meth c cc nL own ret D A dT) {y : MethodName} {cb : ByteArray} {nY na idx mc ms b : Nat} {rm : Room} {As st0 : List Value} {wc : List va_W} {S : Type} {G : S → Prop} {W1 : S → List va_W} (n1 : Nat) (hdg : decode cc pc = .ok (.invokespecial idx, 3)) (hn : pc + 3 = n1) (hk : KI own idx y cb nY na) (hi : y.name = "<init>") (hM : CTn l y cb nY rm D dT (.ref b :: As) wc G W1 mc ms) (hc0 : rm.cells = mc ∧ rm.slots = ms) (hR : rm.frames + 1 ≤ R.frames ∧ 8 + (nY + 11) + rm.locals ≤ R.locals) (isC isR : List Nat) (hC : bsub isC ws wc) (hRr : bsub isR ws (isR.filterMap (fun i => ws[i]?))) (hnC : va_nd isC = true) (hnR : va_nd isR = true) (hdj : ∀ i ∈ isR, i ∉ isC) (hna : As.length = na) (hst : st0 = As.reverse ++ .ref b :: st) (hcs : cells + mc ≤ R.cells ∧ slots + ms ≤ R.slots) (hW : (st.map fun v => v.category).sum ≤ 8) (k : ∀ u : S, G u → WA p l e R s m args below meth c Q D A (cells + mc) (slots + ms) nL n1 (isR.filterMap (fun i => ws[i]?) ++ W1 u) lv (st)) : WA p l e R s m args below meth c Q D A cells slots nL pc ws lv (st0) := by
  subst hn; subst hst
  intro H locs ls hP hD hS hl
  have hA := C.2.2.2.2.2.2.1
  have hK := C.2.2.2.2.2.1
  have hPc := bP.cut hP hC
  have hDc : bD A wc := bD.cut hD hnC hC
  have hFc : ∀ q, bA wc H.size q → A q := bA_free hD hS hA hC
  have ht := C.2.2.2.2.1
  refine va_callv (va_runI (As := As) (rest := st) ⟨C.1, C.2.1, C.2.2.1, C.2.2.2.1, ht⟩ (hM H.size) ⟨callB_of na ht hk.1 rfl hc0.1 hc0.2 (ht _ hk.2.2.2.1) (ht _ hk.2.1) hk.2.2.2.2 hR, hi, ht _ hk.2.2.1⟩ ⟨PC.blind, fun U hU hW => ⟨rfl, by rw [hU], by rw [hU]; exact hPc, va_K.moved hW.alike hK, bD.weaken hDc (fun _ _ => trivial)⟩⟩ rfl hna hl.1 rfl (lv_room hW) hdg hcs) hS (fun q _ h => hFc q h) hFc (fun u t H1 locs1 ht hvm hw hB hz1 hk1 hS1 => ?_)
  obtain ⟨hP1, hK1, hD1⟩ := hB
  rw [ht] at hP1
  obtain ⟨hP2, hD2⟩ := b_join hP hD hC hRr hnR hdj hk1 hFc hP1 hD1
  exact k u hw H1 locs1 ls hP2 hD2 hS1 hl
end WAC
