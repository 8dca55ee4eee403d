/-- a NewHouses' state; the law's state: the class's, the reference's, the long -/
abbrev XS : Type := (Nat → Ob) × (Nat → Int32) × CS × FS × FS × FS
abbrev LZ : Type := XS × MS × (Nat → Int64)
abbrev AL (s : State) : Nat → Prop := fun q => s.heap.size ≤ q
def wL (dT : Nat → ClassId) (u r1 r2 r3 : Nat → Nat → Nat) (aM : Nat → Nat) (bo : Nat) (z : LZ) : List va_W := wX dT u r1 r2 r3 z.1.1 z.1.2.1 z.1.2.2.1 z.1.2.2.2.1 z.1.2.2.2.2.1 z.1.2.2.2.2.2 ++ [wM dT aM z.2.1, [(bo, .inl (dT 1, 1, .inr (.inl z.2.2)))]]
/-- the script, and the numbers of this call -/
def HL (s : State) (b L : Nat) (xs : Nat → Int32) (i : Int32) (ar : Nat → Int32) : Prop := va_X b L xs s s.heap ∧ b < s.heap.size ∧ ∀ n, n < 6 → vp_in (i + Int32.ofNat n) L ∧ xs (i + Int32.ofNat n).toNatClampNeg = ar n
def KW (own : String) (idx : Nat) (y : MethodName) (cb : ByteArray) (n : Nat) (hh : HH) (na : Nat) : Prop := GoodIn lw_good (va_wsS own idx y (mwsW y cb n (some .int) hh)) ∧ (y.cls ≠ "java/lang/invoke/MethodHandle" ∧ y.cls ≠ "java/lang/invoke/VarHandle" ∧ (parseMethodDescriptor y.desc).map (fun d => d.parameters.length) = some na)
theorem KW.mk {own : String} {idx : Nat} {y : MethodName} {cb : ByteArray} {n na : Nat} {hh : HH} (h1 : Cond.methodLink own idx y ∈ lw_good) (h2 : Cond.static y ∈ lw_good) (h4 : Cond.initialized y.cls ∈ lw_good) (h5 : Cond.codeWith y cb n (some .int) hh ∈ lw_good) (h6 : y.cls ≠ "java/lang/invoke/MethodHandle" ∧ y.cls ≠ "java/lang/invoke/VarHandle" ∧ (parseMethodDescriptor y.desc).map (fun d => d.parameters.length) = some na) : KW own idx y cb n hh na := ⟨gd_all (fun w hw => by
  unfold va_wsS mwsW at hw
  simp only [List.cons_append, List.nil_append, List.mem_cons] at hw
  rcases hw with rfl | rfl | rfl | rfl | hw <;> assumption), h6⟩
theorem lg_same (x : Int64) : lg_cmp x x = 0 := by unfold lg_cmp; simp
section WLS
variable {p : Program} {l : Launch} {e : Env} {R : Room} {s : State} {m : MethodId} {args : Array Value} {below : List Frame} {meth : Method} {c : Code} {Q : State → Prop} {D : va_G} {A : Nat → Prop} {dT : Nat → ClassId} {cells slots nL pc : Nat} {ws ws' : List va_W} {lv lv' : List (Nat × Value)} {st : List Value} {cc : ByteArray} {own : String} {ret : Option FieldType} {aK aV : Nat → Nat}
/-- aload_0; iload 4; iconst; iadd; iaload -/
theorem wl_arg (C : Cx p s m args meth c cc nL own ret D (AL s) dT) {b L : Nat} {xs : Nat → Int32} {i : Int32} {ar : Nat → Int32} (hH : HL s b L xs i ar) (tn : Nat) {nn : Int} (n1 : Nat) (h0 : lv[0]? = some (0, .ref b)) (h4 : lv[4]? = some (4, .int i)) (d0 : decode cc pc = .ok (.aload_n 0, 1)) (d1 : decode cc (pc + 1) = .ok (.iload 4, 2)) (d3 : decode cc (pc + 3) = .ok (.iconst nn, 1)) (d4 : decode cc (pc + 4) = .ok (.iadd, 1)) (d5 : decode cc (pc + 5) = .ok (.iaload, 1)) (hn : pc + 6 = n1) (ht : tn < 6) (hv : Int32.ofInt nn = Int32.ofNat tn) (k : WA p l e R s m args below meth c Q D (AL s) cells slots nL n1 ws lv (.int (ar tn) :: st)) : WA p l e R s m args below meth c Q D (AL s) cells slots nL pc ws lv st := by
  subst hn
  refine wa_aload_n C 0 (pc + 1) d0 rfl h0 ?_
  refine wa_iload C 4 (pc + 3) d1 rfl h4 ?_
  refine wa_iconst (v := Int32.ofNat tn) C (pc + 4) d3 rfl hv ?_
  refine wa_iadd C (pc + 5) d4 rfl ?_
  intro H locs ls hP hD hS hl
  refine va_sld C.1 C.2.1 hH.1 hH.2.1 (Nat.not_le.mpr hH.2.1) hS (hH.2.2 tn ht).1 d5 ?_
  rw [(hH.2.2 tn ht).2]
  exact k H locs ls hP hD hS hl
/-- a wrapper's call -/
theorem wl_callW (C : Cx p s m args meth c cc nL own ret D A dT) (E : AMX aK aV A s s.heap) {y : MethodName} {cb : ByteArray} {nY na idx mc ms : Nat} {hh : HH} {rm : Room} {As st0 : List Value} {wc : List va_W} {S : Type} {G : S → Prop} {W1 : S → List va_W} {r : Int32} (wf : S → List va_W) (n1 : Nat) (hdg : decode cc pc = .ok (.invokestatic idx, 3)) (hn : pc + 3 = n1) (hk : KW own idx y cb nY hh na) (hM : CWi aK aV l y cb nY hh rm D dT As wc G W1 r mc ms) (hc0 : rm.cells = mc ∧ rm.slots = ms) (hR : rm.frames + 1 ≤ R.frames ∧ 8 + (nY + 11) + rm.locals ≤ R.locals) (isC isR isF : List Nat) (hC : bsub isC ws wc) (hRr : bsub isR ws (isR.filterMap (fun i => ws[i]?))) (hnC : va_nd isC = true) (hnR : va_nd isR = true) (hdj : ∀ i ∈ isR, i ∉ isC) (hnF : va_nd isF = true) (hF : ∀ u, bsub isF (isR.filterMap (fun i => ws[i]?) ++ W1 u) (wf u)) (hna : As.length = na) (hst : st0 = As.reverse ++ st) (hcs : cells + mc ≤ R.cells ∧ slots + ms ≤ R.slots) (hW : (st.map fun v => v.category).sum ≤ 8) (k : ∀ u : S, G u → WA p l e R s m args below meth c Q D A (cells + mc) (slots + ms) nL n1 (wf u) lv (.int r :: st)) : WA p l e R s m args below meth c Q D A cells slots nL pc ws lv st0 := by
  subst hn; subst hst
  intro H locs ls hP hD hS hl
  have hA := C.2.2.2.2.2.2.1
  have hK := C.2.2.2.2.2.1
  have hPc := bP.cut hP hC
  have hDc : bD A wc := bD.cut hD hnC hC
  have hFc : ∀ q, bA wc H.size q → A q := bA_free hD hS hA hC
  refine va_calli (vx_runSW (As := As) (rest := st) ⟨C.1, C.2.1, C.2.2.1, C.2.2.2.1, C.2.2.2.2.1⟩ (hM H.size) (vx_cwSW na C.2.2.2.2.1 hk.1 rfl hc0.1 hc0.2 hk.2 hR) ⟨PX.blind, fun U hU hW => ⟨rfl, by rw [hU], by rw [hU]; exact hPc, va_K.moved hW.alike hK, bD.weaken hDc (fun _ _ => trivial), by rw [hU]; exact AMX.call E hS hFc hW⟩⟩ rfl hna hl.1 rfl (lv_room hW) hdg hcs) hS (fun q _ h => hFc q h) hFc (fun r9 u t H1 locs1 ht hvm hw hB hz1 hk1 hS1 => ?_)
  obtain ⟨rfl, hg⟩ := hw
  obtain ⟨hP1, hK1, hD1⟩ := hB
  rw [ht] at hP1
  obtain ⟨hP2, hD2⟩ := b_join hP hD hC hRr hnR hdj hk1 hFc hP1 hD1
  exact k u hg H1 locs1 ls (bP.cut hP2 (hF u)) (bD.cut hD2 hnF (hF u)) hS1 hl
end WLS
