section AMBS
def nS : Nat := 26
def ownS : List (String × Nat × String) := [("NewHouses", 110, "the tape has not so many bytes"), ("NewHouses$Reader", 89, ";()+-*/<="), ("NewHouses$Reader", 103, "person"), ("NewHouses$Reader", 112, "house"), ("NewHouses$Reader", 117, "friends"), ("NewHouses$Reader", 121, "picks"), ("NewHouses$Reader", 179, "not"), ("NewHouses$Reader", 193, "size"), ("NewHouses$Reader", 195, "evening"), ("NewHouses$Reader", 197, "rank"), ("NewHouses$Reader", 199, "place"), ("NewHouses$Reader", 201, "since"), ("NewHouses$Reader", 203, "moves"), ("NewHouses$Reader", 205, "ranks"), ("NewHouses$Reader", 207, "old"), ("NewHouses$Reader", 177, "and"), ("NewHouses$Reader", 170, "or"), ("NewHouses$Reader", 126, "keeps"), ("NewHouses", 190, "no such count"), ("NewHouses", 398, "no such person"), ("NewHouses", 223, "no such thing of a person"), ("NewHouses", 400, "no such house"), ("NewHouses", 244, "no such thing of a house"), ("NewHouses", 402, "no such thing to ask"), ("NewHouses", 404, "a number is out of its bounds"), ("NewHouses", 362, "a game is of two")]
def lenS : List Nat := [30, 9, 6, 5, 7, 5, 3, 4, 7, 4, 5, 5, 5, 5, 3, 3, 2, 5, 13, 14, 25, 13, 24, 20, 29, 16]
def bytS : List (List Int32) := [[116, 104, 101, 32, 116, 97, 112, 101, 32, 104, 97, 115, 32, 110, 111, 116, 32, 115, 111, 32, 109, 97, 110, 121, 32, 98, 121, 116, 101, 115], [59, 40, 41, 43, 45, 42, 47, 60, 61], [112, 101, 114, 115, 111, 110], [104, 111, 117, 115, 101], [102, 114, 105, 101, 110, 100, 115], [112, 105, 99, 107, 115], [110, 111, 116], [115, 105, 122, 101], [101, 118, 101, 110, 105, 110, 103], [114, 97, 110, 107], [112, 108, 97, 99, 101], [115, 105, 110, 99, 101], [109, 111, 118, 101, 115], [114, 97, 110, 107, 115], [111, 108, 100], [97, 110, 100], [111, 114], [107, 101, 101, 112, 115], [110, 111, 32, 115, 117, 99, 104, 32, 99, 111, 117, 110, 116], [110, 111, 32, 115, 117, 99, 104, 32, 112, 101, 114, 115, 111, 110], [110, 111, 32, 115, 117, 99, 104, 32, 116, 104, 105, 110, 103, 32, 111, 102, 32, 97, 32, 112, 101, 114, 115, 111, 110], [110, 111, 32, 115, 117, 99, 104, 32, 104, 111, 117, 115, 101], [110, 111, 32, 115, 117, 99, 104, 32, 116, 104, 105, 110, 103, 32, 111, 102, 32, 97, 32, 104, 111, 117, 115, 101], [110, 111, 32, 115, 117, 99, 104, 32, 116, 104, 105, 110, 103, 32, 116, 111, 32, 97, 115, 107], [97, 32, 110, 117, 109, 98, 101, 114, 32, 105, 115, 32, 111, 117, 116, 32, 111, 102, 32, 105, 116, 115, 32, 98, 111, 117, 110, 100, 115], [97, 32, 103, 97, 109, 101, 32, 105, 115, 32, 111, 102, 32, 116, 119, 111]]
/-- the strings at aK, their bytes at aV; the statics that are read -/
def AMB (aK aV : Nat → Nat) (A : Nat → Prop) (U : State) (H : Heap) : Prop :=
  vk_S nS lenS bytS aK aV A U H ∧ (∀ (i : Nat) (q : String × Nat × String), ownS[i]? = some q → vk_R q.1 q.2.1 q.2.2 (aK i) U) ∧ va_Z "java/lang/String" "COMPACT_STRINGS" "Z" (.int 1) A U H ∧ va_Zq "jdk/internal/util/Preconditions" "SIOOBE_FORMATTER" "Ljava/util/function/BiFunction;" A U H ∧ vx_Zq Bundle.tN "UNASSIGNED_STACK" Bundle.steD A U H ∧ vx_Zq Bundle.tN "SUPPRESSED_SENTINEL" Bundle.listD A U H
theorem AMB.same {aK aV : Nat → Nat} {A : Nat → Prop} {u U : State} {H : Heap} (hv : U.vm = u.vm) (h : AMB aK aV A u H) : AMB aK aV A U H := by
  have ha : u.vm.Alike U.vm := by rw [hv]; exact Vm.Alike.refl _
  exact ⟨vk_S.moved ha h.1, fun i q hq => vk_R.same hv (h.2.1 i q hq), va_Z.moved ha h.2.2.1, va_Zq.moved ha h.2.2.2.1, vx_Zq.moved ha h.2.2.2.2.1, vx_Zq.moved ha h.2.2.2.2.2⟩
theorem AMB.call {aK aV : Nat → Nat} {A B : Nat → Prop} {s U : State} {H : Heap} {locs : List Loc} (h : AMB aK aV A s s.heap) (hS : va_S A s.heap H locs) (hB : ∀ q, B q → A q) (hW : s.WarmedH U.vm) : AMB aK aV B U H := by
  have ha := hW.alike
  have hk : ∀ a : Nat, a < s.heap.size → ¬ A a → H[a]? = s.heap[a]? := hS.2.1
  exact ⟨vk_S.moved ha (vk_S.narrow (vk_S.kept h.1 hk) hB), fun i q hq => vk_R.warm hW (h.2.1 i q hq), va_Z.moved ha (va_Z.narrow (va_Z.kept h.2.2.1 hk) hB), va_Zq.moved ha (va_Zq.narrow (va_Zq.kept h.2.2.2.1 hk) hB), vx_Zq.moved ha (vx_Zq.narrow (vx_Zq.kept h.2.2.2.2.1 hk) hB), vx_Zq.moved ha (vx_Zq.narrow (vx_Zq.kept h.2.2.2.2.2 hk) hB)⟩
variable {p : Program} {l : Launch} {e : Env} {R : Room} {s : State} {m : MethodId} {args : Array Value} {below : List Frame} {meth : Method} {c : Code} {Q : State → Prop} {D : va_G} {A : Nat → Prop} {dT : Nat → ClassId} {cells slots nL pc : Nat} {ws ws' : List va_W} {lv lv' : List (Nat × Value)} {st : List Value} {cc : ByteArray} {own : String} {ret : Option FieldType} {aK aV : Nat → Nat}
theorem wa_ldcS (C : Cx p s m args meth c cc nL own ret D A dT) (E : AMB aK aV A s s.heap) {index : Nat} {tx : String} (i n1 : Nat) (hdg : decode cc pc = .ok (.ldc index, 2)) (hn : pc + 2 = n1) (hq : ownS[i]? = some (own, index, tx)) (k : WA p l e R s m args below meth c Q D A cells slots nL n1 ws lv (.ref (aK i) :: st)) : WA p l e R s m args below meth c Q D A cells slots nL pc ws lv (st) := by
  subst hn
  exact fun H locs ls hP hD hS hl => va_ldcS C.1 C.2.1 C.2.2.2.1 (E.2.1 i _ hq) hdg (k H locs ls hP hD hS hl)
theorem wa_compact (C : Cx p s m args meth c cc nL own ret D A dT) (E : AMB aK aV A s s.heap) {index : Nat} (n1 : Nat) (hdg : decode cc pc = .ok (.getstatic index, 3)) (hn : pc + 3 = n1) (hlink : Cond.fieldLink own index "java/lang/String" "COMPACT_STRINGS" "Z" ∈ lw_good) (k : WA p l e R s m args below meth c Q D A cells slots nL n1 ws lv (.int 1 :: st)) : WA p l e R s m args below meth c Q D A cells slots nL pc ws lv (st) := by
  subst hn
  exact fun H locs ls hP hD hS hl => va_gets C.1 C.2.1 E.2.2.1 hS C.2.2.2.1 (C.2.2.2.2.1 _ hlink) (fun _ h9 => h9) hdg (k H locs ls hP hD hS hl)
theorem wa_sioobe (C : Cx p s m args meth c cc nL own ret D A dT) (E : AMB aK aV A s s.heap) {index : Nat} (n1 : Nat) (hdg : decode cc pc = .ok (.getstatic index, 3)) (hn : pc + 3 = n1) (hlink : Cond.fieldLink own index "jdk/internal/util/Preconditions" "SIOOBE_FORMATTER" "Ljava/util/function/BiFunction;" ∈ lw_good) (k : ∀ v : Value, (v = .null ∨ ∃ t, v = .ref t) → WA p l e R s m args below meth c Q D A cells slots nL n1 ws lv (v :: st)) : WA p l e R s m args below meth c Q D A cells slots nL pc ws lv (st) := by
  subst hn
  intro H locs ls hP hD hS hl
  rcases E.2.2.2.1 with h | ⟨t, h⟩
  · exact va_gets C.1 C.2.1 h hS C.2.2.2.1 (C.2.2.2.2.1 _ hlink) (fun _ h9 => h9) hdg (k .null (Or.inl rfl) H locs ls hP hD hS hl)
  · exact va_gets C.1 C.2.1 h hS C.2.2.2.1 (C.2.2.2.2.1 _ hlink) (fun _ h9 => h9) hdg (k (.ref t) (Or.inr ⟨t, rfl⟩) H locs ls hP hD hS hl)
theorem wa_coder (C : Cx p s m args meth c cc nL own ret D A dT) (E : AMB aK aV A s s.heap) {index i : Nat} (n1 : Nat) (hdg : decode cc pc = .ok (.getfield index, 3)) (hn : pc + 3 = n1) (hi : i < nS) (hlink : Cond.fieldLink own index "java/lang/String" "coder" "B" ∈ lw_good) (k : WA p l e R s m args below meth c Q D A cells slots nL n1 ws lv (.int 0 :: st)) : WA p l e R s m args below meth c Q D A cells slots nL pc ws lv (.ref (aK i) :: st) := by
  subst hn
  exact fun H locs ls hP hD hS hl => vk_getf C.1 C.2.1 (E.1.1 i hi).2.1 hS C.2.2.2.1 (C.2.2.2.2.1 _ hlink) (fun _ h9 => h9) hdg (k H locs ls hP hD hS hl)
theorem wa_value (C : Cx p s m args meth c cc nL own ret D A dT) (E : AMB aK aV A s s.heap) {index i : Nat} (n1 : Nat) (hdg : decode cc pc = .ok (.getfield index, 3)) (hn : pc + 3 = n1) (hi : i < nS) (hlink : Cond.fieldLink own index "java/lang/String" "value" "[B" ∈ lw_good) (k : WA p l e R s m args below meth c Q D A cells slots nL n1 ws lv (.ref (aV i) :: st)) : WA p l e R s m args below meth c Q D A cells slots nL pc ws lv (.ref (aK i) :: st) := by
  subst hn
  exact fun H locs ls hP hD hS hl => vk_getf C.1 C.2.1 (E.1.1 i hi).2.2.1 hS C.2.2.2.1 (C.2.2.2.2.1 _ hlink) (fun _ h9 => h9) hdg (k H locs ls hP hD hS hl)
theorem wa_blen (C : Cx p s m args meth c cc nL own ret D A dT) (E : AMB aK aV A s s.heap) {i : Nat} (n1 : Nat) (hdg : decode cc pc = .ok (.arraylength, 1)) (hn : pc + 1 = n1) (hi : i < nS) (k : WA p l e R s m args below meth c Q D A cells slots nL n1 ws lv (.int (Int32.ofNat (lenS.getD i 0)) :: st)) : WA p l e R s m args below meth c Q D A cells slots nL pc ws lv (.ref (aV i) :: st) := by
  subst hn
  exact fun H locs ls hP hD hS hl => va_tlen C.1 C.2.1 (E.1.1 i hi).2.2.2 hS rfl hdg (k H locs ls hP hD hS hl)
theorem wa_bat (C : Cx p s m args meth c cc nL own ret D A dT) (E : AMB aK aV A s s.heap) {i : Nat} {j : Int32} (n1 : Nat) (hdg : decode cc pc = .ok (.baload, 1)) (hn : pc + 1 = n1) (hi : i < nS) (hj : vp_in j (lenS.getD i 0)) (k : WA p l e R s m args below meth c Q D A cells slots nL n1 ws lv (.int ((bytS.getD i []).getD j.toNatClampNeg 0) :: st)) : WA p l e R s m args below meth c Q D A cells slots nL pc ws lv (.int j :: .ref (aV i) :: st) := by
  subst hn
  exact fun H locs ls hP hD hS hl => va_tb C.1 C.2.1 (E.1.1 i hi).2.2.2 hS hj rfl hdg (k H locs ls hP hD hS hl)
theorem wa_i2c (C : Cx p s m args meth c cc nL own ret D A dT) {x : Int32} (n1 : Nat) (hdg : decode cc pc = .ok (.i2c, 1)) (hn : pc + 1 = n1) (k : WA p l e R s m args below meth c Q D A cells slots nL n1 ws lv (.int ((x.toUInt32 % 65536).toInt32) :: st)) : WA p l e R s m args below meth c Q D A cells slots nL pc ws lv (.int x :: st) := by
  subst hn
  exact fun H locs ls hP hD hS hl => lv_i2c C.1 C.2.1 hdg rfl (k H locs ls hP hD hS hl)
/-! contracts with the surroundings -/
def PE (aK aV : Nat → Nat) (D : va_G) (dT : Nat → ClassId) (w : List va_W) (sz : Nat) (av : List Value) : Array Value → State → Prop := va_Pc av (fun U => U.heap.size = sz ∧ bP D w U.heap ∧ va_K D vwCl (tyL dT) U ∧ bD (fun _ => True) w ∧ AMB aK aV (bA w sz) U U.heap)
theorem PE.blind {w : List va_W} {sz : Nat} {av : List Value} : FrameBlind (PE aK aV D dT w sz av) := fun a U g mk q => by
  obtain ⟨q0, q1, qP, qK, qD, qE⟩ := q
  exact ⟨q0, q1, qP, va_K.moved (u := U) (U := U.calling g mk a) (Vm.Alike.refl U.vm) qK, qD, AMB.same (u := U) rfl qE⟩
def CEi (aK aV : Nat → Nat) (l : Launch) (y : MethodName) (cb : ByteArray) (n : Nat) (ret : Option FieldType) (rm : Room) (D : va_G) (dT : Nat → ClassId) (av : List Value) (w0 w1 : List va_W) (r : Int32) : Prop := ∀ sz, Met l y (mws y cb n ret) rm (PE aK aV D dT w0 sz av) (QI D dT (bA w0 sz) w1 r) 0 0 (bA w0 sz)
def CEv (aK aV : Nat → Nat) (l : Launch) (y : MethodName) (cb : ByteArray) (n : Nat) (ret : Option FieldType) (rm : Room) (D : va_G) (dT : Nat → ClassId) (av : List Value) (w0 w1 : List va_W) : Prop := ∀ sz, Met l y (mws y cb n ret) rm (PE aK aV D dT w0 sz av) (QV D dT (bA w0 sz) w1) 0 0 (bA w0 sz)
theorem CEi.of {y : MethodName} {cb : ByteArray} {n : Nat} {rm : Room} {av : List Value} {w0 w1 : List va_W} {r : Int32} {lv0 : List (Nat × Value)} (hy : plainName y.cls = true) (hlen : (lg_sl av).length ≤ n) (hlv : lv_args 0 av = lv0)
    (body : ∀ p e s m args below meth c A, Cx p s m args meth c cb n y.cls ret D A dT → AMB aK aV A s s.heap → WA p l e rm s m args below meth c (MQ below (QI D dT A w1 r) args s 0 0 A) D A 0 0 n 0 w0 lv0 []) : CEi aK aV l y cb n ret rm D dT av w0 w1 r := by
  intro sz
  refine Met.ofW (cc := cb) (maxL := n) (ret := ret) hy rfl ?_
  intro p e s m args below meth c s₁ B hml hv
  obtain ⟨rfl, hsz, hP, hK, hD0, hE⟩ := hv
  have hts := atoms_spec (ws := mws y cb n ret) B.pre
  subst hsz
  have hC : Cx p s m av.toArray meth c cb n y.cls ret D (bA w0 s.heap.size) dT := ⟨B.exec, B.bytes, hml, findClass_of_methodNamed B.named, fun w h => hts w (List.mem_cons_of_mem _ h), hK, fun q h => Or.inr h, B.returns, B.notSynchronized⟩
  have h9 := body p e s m av.toArray below meth c (bA w0 s.heap.size) hC hE
  rw [lg_entry_eq]
  exact h9 s.heap [] _ hP (va_D.self (sz := s.heap.size) hD0) va_S.rf (hlv ▸ lv_entry av hlen)
theorem CEv.of {y : MethodName} {cb : ByteArray} {n : Nat} {rm : Room} {av : List Value} {w0 w1 : List va_W} {lv0 : List (Nat × Value)} (hy : plainName y.cls = true) (hlen : (lg_sl av).length ≤ n) (hlv : lv_args 0 av = lv0)
    (body : ∀ p e s m args below meth c A, Cx p s m args meth c cb n y.cls ret D A dT → AMB aK aV A s s.heap → WA p l e rm s m args below meth c (MQ below (QV D dT A w1) args s 0 0 A) D A 0 0 n 0 w0 lv0 []) : CEv aK aV l y cb n ret rm D dT av w0 w1 := by
  intro sz
  refine Met.ofW (cc := cb) (maxL := n) (ret := ret) hy rfl ?_
  intro p e s m args below meth c s₁ B hml hv
  obtain ⟨rfl, hsz, hP, hK, hD0, hE⟩ := hv
  have hts := atoms_spec (ws := mws y cb n ret) B.pre
  subst hsz
  have hC : Cx p s m av.toArray meth c cb n y.cls ret D (bA w0 s.heap.size) dT := ⟨B.exec, B.bytes, hml, findClass_of_methodNamed B.named, fun w h => hts w (List.mem_cons_of_mem _ h), hK, fun q h => Or.inr h, B.returns, B.notSynchronized⟩
  have h9 := body p e s m av.toArray below meth c (bA w0 s.heap.size) hC hE
  rw [lg_entry_eq]
  exact h9 s.heap [] _ hP (va_D.self (sz := s.heap.size) hD0) va_S.rf (hlv ▸ lv_entry av hlen)
theorem we_callVi (C : Cx p s m args meth c cc nL own ret D A dT) (E : AMB aK aV A s s.heap) {y : MethodName} {cb : ByteArray} {nY na idx : Nat} {rY : Option FieldType} {rm : Room} {As st0 : List Value} {b : Nat} {wc w1 : List va_W} {r : Int32} (n1 : Nat) (hdg : decode cc pc = .ok (.invokevirtual idx, 3)) (hn : pc + 3 = n1) (hk : KV own idx y cb nY rY na) (hM : CEi aK aV l y cb nY rY rm D dT (.ref b :: As) wc w1 r) (hc0 : rm.cells = 0 ∧ rm.slots = 0) (hR : rm.frames + 1 ≤ R.frames ∧ 8 + (nY + 11) + rm.locals ≤ R.locals) (hrv : ∀ (H : Heap) (locs : List Loc), bP D ws H → va_S A s.heap H locs → ∃ cell : Cell, H[b]? = some cell ∧ cell.vm.isStatics = false ∧ s.vm.findClass y.cls = some cell.cls) (isC isR isF : List Nat) (hC : bsub isC ws wc) (hRr : bsub isR ws (isR.filterMap (fun i => ws[i]?))) (hnC : va_nd isC = true) (hnR : va_nd isR = true) (hdj : ∀ i ∈ isR, i ∉ isC) (hnF : va_nd isF = true) (hF : bsub isF (isR.filterMap (fun i => ws[i]?) ++ w1) ws') (hna : As.length = na) (hst : st0 = As.reverse ++ .ref b :: st) (hcs : cells ≤ R.cells ∧ slots ≤ R.slots) (hW : (st.map fun v => v.category).sum ≤ 8) (k : WA p l e R s m args below meth c Q D A cells slots nL n1 ws' lv (.int r :: st)) : WA p l e R s m args below meth c Q D A cells slots nL pc ws lv (st0) := by
  subst hn; subst hst
  intro H locs ls hP hD hS hl
  have hA := C.2.2.2.2.2.2.1
  have hK := C.2.2.2.2.2.1
  have hPc := bP.cut hP hC
  have hDc : bD A wc := bD.cut hD hnC hC
  have hFc : ∀ q, bA wc H.size q → A q := bA_free hD hS hA hC
  refine va_calli (va_runV (As := As) (rest := st) ⟨C.1, C.2.1, C.2.2.1, C.2.2.2.1, C.2.2.2.2.1⟩ (hM H.size) (cwV na C.2.2.2.2.1 hk.1 rfl hc0.1 hc0.2 hk.2 hR) ⟨PE.blind, hrv H locs hP hS, fun U hU hW => ⟨rfl, by rw [hU], by rw [hU]; exact hPc, va_K.moved hW.alike hK, bD.weaken hDc (fun _ _ => trivial), by rw [hU]; exact AMB.call E hS hFc hW⟩⟩ rfl hna hl.1 rfl (lv_room hW) hdg ⟨hcs.1, hcs.2⟩) hS (fun q _ h => hFc q h) hFc (fun r9 u t H1 locs1 ht hvm hw hB hz1 hk1 hS1 => ?_)
  obtain ⟨hP1, hK1, hD1⟩ := hB
  rw [ht] at hP1
  subst hw
  obtain ⟨hP2, hD2⟩ := b_join hP hD hC hRr hnR hdj hk1 hFc hP1 hD1
  exact k H1 locs1 ls (bP.cut hP2 hF) (bD.cut hD2 hnF hF) hS1 hl
theorem we_callV0i (C : Cx p s m args meth c cc nL own ret D A dT) (E : AMB aK aV A s s.heap) {y : MethodName} {cb : ByteArray} {nY na idx : Nat} {rY : Option FieldType} {rm : Room} {As st0 : List Value} {b : Nat} {r : Int32} (n1 : Nat) (hdg : decode cc pc = .ok (.invokevirtual idx, 3)) (hn : pc + 3 = n1) (hk : KV own idx y cb nY rY na) (hM : CEi aK aV l y cb nY rY rm D dT (.ref b :: As) [] [] r) (hc0 : rm.cells = 0 ∧ rm.slots = 0) (hR : rm.frames + 1 ≤ R.frames ∧ 8 + (nY + 11) + rm.locals ≤ R.locals) (hrv : ∀ (H : Heap) (locs : List Loc), bP D ws H → va_S A s.heap H locs → ∃ cell : Cell, H[b]? = some cell ∧ cell.vm.isStatics = false ∧ s.vm.findClass y.cls = some cell.cls) (hna : As.length = na) (hst : st0 = As.reverse ++ .ref b :: st) (hcs : cells ≤ R.cells ∧ slots ≤ R.slots) (hW : (st.map fun v => v.category).sum ≤ 8) (k : WA p l e R s m args below meth c Q D A cells slots nL n1 ws lv (.int r :: st)) : WA p l e R s m args below meth c Q D A cells slots nL pc ws lv (st0) := by
  subst hn; subst hst
  intro H locs ls hP hD hS hl
  have hA := C.2.2.2.2.2.2.1
  have hK := C.2.2.2.2.2.1
  have hPc := (show bP D [] H from fun k q h => by simp at h)
  have hDc : bD A [] := (show va_D A [] from ⟨fun i j p q h => by simp at h, fun k q h => by simp at h⟩)
  have hFc : ∀ q, bA [] H.size q → A q := fun q hq => hq.elim (fun ⟨k, e9, hk9⟩ => by simp at hk9) (fun h9 => hA q (Nat.le_trans hS.1 h9))
  refine va_calli (va_runV (As := As) (rest := st) ⟨C.1, C.2.1, C.2.2.1, C.2.2.2.1, C.2.2.2.2.1⟩ (hM H.size) (cwV na C.2.2.2.2.1 hk.1 rfl hc0.1 hc0.2 hk.2 hR) ⟨PE.blind, hrv H locs hP hS, fun U hU hW => ⟨rfl, by rw [hU], by rw [hU]; exact hPc, va_K.moved hW.alike hK, bD.weaken hDc (fun _ _ => trivial), by rw [hU]; exact AMB.call E hS hFc hW⟩⟩ rfl hna hl.1 rfl (lv_room hW) hdg ⟨hcs.1, hcs.2⟩) hS (fun q _ h => hFc q h) hFc (fun r9 u t H1 locs1 ht hvm hw hB hz1 hk1 hS1 => ?_)
  obtain ⟨hP1, hK1, hD1⟩ := hB
  rw [ht] at hP1
  subst hw
  exact k H1 locs1 ls (fun k9 q hq => (hP k9 q hq).kept (hk1 q.1 (hP k9 q hq).lt (fun h => h.elim (fun ⟨_, _, h⟩ => by simp at h) (fun h => absurd (hP k9 q hq).lt (Nat.not_lt.mpr h))))) hD hS1 hl
theorem we_callVv (C : Cx p s m args meth c cc nL own ret D A dT) (E : AMB aK aV A s s.heap) {y : MethodName} {cb : ByteArray} {nY na idx : Nat} {rY : Option FieldType} {rm : Room} {As st0 : List Value} {b : Nat} {wc w1 : List va_W} (n1 : Nat) (hdg : decode cc pc = .ok (.invokevirtual idx, 3)) (hn : pc + 3 = n1) (hk : KV own idx y cb nY rY na) (hM : CEv aK aV l y cb nY rY rm D dT (.ref b :: As) wc w1) (hc0 : rm.cells = 0 ∧ rm.slots = 0) (hR : rm.frames + 1 ≤ R.frames ∧ 8 + (nY + 11) + rm.locals ≤ R.locals) (hrv : ∀ (H : Heap) (locs : List Loc), bP D ws H → va_S A s.heap H locs → ∃ cell : Cell, H[b]? = some cell ∧ cell.vm.isStatics = false ∧ s.vm.findClass y.cls = some cell.cls) (isC isR isF : List Nat) (hC : bsub isC ws wc) (hRr : bsub isR ws (isR.filterMap (fun i => ws[i]?))) (hnC : va_nd isC = true) (hnR : va_nd isR = true) (hdj : ∀ i ∈ isR, i ∉ isC) (hnF : va_nd isF = true) (hF : bsub isF (isR.filterMap (fun i => ws[i]?) ++ w1) ws') (hna : As.length = na) (hst : st0 = As.reverse ++ .ref b :: st) (hcs : cells ≤ R.cells ∧ slots ≤ R.slots) (hW : (st.map fun v => v.category).sum ≤ 8) (k : WA p l e R s m args below meth c Q D A cells slots nL n1 ws' lv (st)) : WA p l e R s m args below meth c Q D A cells slots nL pc ws lv (st0) := by
  subst hn; subst hst
  intro H locs ls hP hD hS hl
  have hA := C.2.2.2.2.2.2.1
  have hK := C.2.2.2.2.2.1
  have hPc := bP.cut hP hC
  have hDc : bD A wc := bD.cut hD hnC hC
  have hFc : ∀ q, bA wc H.size q → A q := bA_free hD hS hA hC
  refine va_callv (va_runV (As := As) (rest := st) ⟨C.1, C.2.1, C.2.2.1, C.2.2.2.1, C.2.2.2.2.1⟩ (hM H.size) (cwV na C.2.2.2.2.1 hk.1 rfl hc0.1 hc0.2 hk.2 hR) ⟨PE.blind, hrv H locs hP hS, fun U hU hW => ⟨rfl, by rw [hU], by rw [hU]; exact hPc, va_K.moved hW.alike hK, bD.weaken hDc (fun _ _ => trivial), by rw [hU]; exact AMB.call E hS hFc hW⟩⟩ rfl hna hl.1 rfl (lv_room hW) hdg ⟨hcs.1, hcs.2⟩) hS (fun q _ h => hFc q h) hFc (fun u t H1 locs1 ht hvm hw hB hz1 hk1 hS1 => ?_)
  obtain ⟨hP1, hK1, hD1⟩ := hB
  rw [ht] at hP1
  obtain ⟨hP2, hD2⟩ := b_join hP hD hC hRr hnR hdj hk1 hFc hP1 hD1
  exact k H1 locs1 ls (bP.cut hP2 hF) (bD.cut hD2 hnF hF) hS1 hl
theorem we_callV0v (C : Cx p s m args meth c cc nL own ret D A dT) (E : AMB aK aV A s s.heap) {y : MethodName} {cb : ByteArray} {nY na idx : Nat} {rY : Option FieldType} {rm : Room} {As st0 : List Value} {b : Nat} (n1 : Nat) (hdg : decode cc pc = .ok (.invokevirtual idx, 3)) (hn : pc + 3 = n1) (hk : KV own idx y cb nY rY na) (hM : CEv aK aV l y cb nY rY rm D dT (.ref b :: As) [] []) (hc0 : rm.cells = 0 ∧ rm.slots = 0) (hR : rm.frames + 1 ≤ R.frames ∧ 8 + (nY + 11) + rm.locals ≤ R.locals) (hrv : ∀ (H : Heap) (locs : List Loc), bP D ws H → va_S A s.heap H locs → ∃ cell : Cell, H[b]? = some cell ∧ cell.vm.isStatics = false ∧ s.vm.findClass y.cls = some cell.cls) (hna : As.length = na) (hst : st0 = As.reverse ++ .ref b :: st) (hcs : cells ≤ R.cells ∧ slots ≤ R.slots) (hW : (st.map fun v => v.category).sum ≤ 8) (k : WA p l e R s m args below meth c Q D A cells slots nL n1 ws lv (st)) : WA p l e R s m args below meth c Q D A cells slots nL pc ws lv (st0) := by
  subst hn; subst hst
  intro H locs ls hP hD hS hl
  have hA := C.2.2.2.2.2.2.1
  have hK := C.2.2.2.2.2.1
  have hPc := (show bP D [] H from fun k q h => by simp at h)
  have hDc : bD A [] := (show va_D A [] from ⟨fun i j p q h => by simp at h, fun k q h => by simp at h⟩)
  have hFc : ∀ q, bA [] H.size q → A q := fun q hq => hq.elim (fun ⟨k, e9, hk9⟩ => by simp at hk9) (fun h9 => hA q (Nat.le_trans hS.1 h9))
  refine va_callv (va_runV (As := As) (rest := st) ⟨C.1, C.2.1, C.2.2.1, C.2.2.2.1, C.2.2.2.2.1⟩ (hM H.size) (cwV na C.2.2.2.2.1 hk.1 rfl hc0.1 hc0.2 hk.2 hR) ⟨PE.blind, hrv H locs hP hS, fun U hU hW => ⟨rfl, by rw [hU], by rw [hU]; exact hPc, va_K.moved hW.alike hK, bD.weaken hDc (fun _ _ => trivial), by rw [hU]; exact AMB.call E hS hFc hW⟩⟩ rfl hna hl.1 rfl (lv_room hW) hdg ⟨hcs.1, hcs.2⟩) hS (fun q _ h => hFc q h) hFc (fun u t H1 locs1 ht hvm hw hB hz1 hk1 hS1 => ?_)
  obtain ⟨hP1, hK1, hD1⟩ := hB
  rw [ht] at hP1
  exact k H1 locs1 ls (fun k9 q hq => (hP k9 q hq).kept (hk1 q.1 (hP k9 q hq).lt (fun h => h.elim (fun ⟨_, _, h⟩ => by simp at h) (fun h => absurd (hP k9 q hq).lt (Nat.not_lt.mpr h))))) hD hS1 hl
theorem we_callSi (C : Cx p s m args meth c cc nL own ret D A dT) (E : AMB aK aV A s s.heap) {y : MethodName} {cb : ByteArray} {nY na idx : Nat} {rY : Option FieldType} {rm : Room} {As st0 : List Value} {wc w1 : List va_W} {r : Int32} (n1 : Nat) (hdg : decode cc pc = .ok (.invokestatic idx, 3)) (hn : pc + 3 = n1) (hk : KS own idx y cb nY rY na) (hM : CEi aK aV l y cb nY rY rm D dT As wc w1 r) (hc0 : rm.cells = 0 ∧ rm.slots = 0) (hR : rm.frames + 1 ≤ R.frames ∧ 8 + (nY + 11) + rm.locals ≤ R.locals) (isC isR isF : List Nat) (hC : bsub isC ws wc) (hRr : bsub isR ws (isR.filterMap (fun i => ws[i]?))) (hnC : va_nd isC = true) (hnR : va_nd isR = true) (hdj : ∀ i ∈ isR, i ∉ isC) (hnF : va_nd isF = true) (hF : bsub isF (isR.filterMap (fun i => ws[i]?) ++ w1) ws') (hna : As.length = na) (hst : st0 = As.reverse ++ st) (hcs : cells ≤ R.cells ∧ slots ≤ R.slots) (hW : (st.map fun v => v.category).sum ≤ 8) (k : WA p l e R s m args below meth c Q D A cells slots nL n1 ws' lv (.int r :: st)) : WA p l e R s m args below meth c Q D A cells slots nL pc ws lv (st0) := by
  subst hn; subst hst
  intro H locs ls hP hD hS hl
  have hA := C.2.2.2.2.2.2.1
  have hK := C.2.2.2.2.2.1
  have hPc := bP.cut hP hC
  have hDc : bD A wc := bD.cut hD hnC hC
  have hFc : ∀ q, bA wc H.size q → A q := bA_free hD hS hA hC
  refine va_calli (va_runS (As := As) (rest := st) ⟨C.1, C.2.1, C.2.2.1, C.2.2.2.1, C.2.2.2.2.1⟩ (hM H.size) (cwS9 C.2.2.2.2.1 hk hc0.1 hc0.2 hR) ⟨PE.blind, fun U hU hW => ⟨rfl, by rw [hU], by rw [hU]; exact hPc, va_K.moved hW.alike hK, bD.weaken hDc (fun _ _ => trivial), by rw [hU]; exact AMB.call E hS hFc hW⟩⟩ rfl hna hl.1 rfl (lv_room hW) hdg ⟨hcs.1, hcs.2⟩) hS (fun q _ h => hFc q h) hFc (fun r9 u t H1 locs1 ht hvm hw hB hz1 hk1 hS1 => ?_)
  obtain ⟨hP1, hK1, hD1⟩ := hB
  rw [ht] at hP1
  subst hw
  obtain ⟨hP2, hD2⟩ := b_join hP hD hC hRr hnR hdj hk1 hFc hP1 hD1
  exact k H1 locs1 ls (bP.cut hP2 hF) (bD.cut hD2 hnF hF) hS1 hl
theorem we_callS0i (C : Cx p s m args meth c cc nL own ret D A dT) (E : AMB aK aV A s s.heap) {y : MethodName} {cb : ByteArray} {nY na idx : Nat} {rY : Option FieldType} {rm : Room} {As st0 : List Value} {r : Int32} (n1 : Nat) (hdg : decode cc pc = .ok (.invokestatic idx, 3)) (hn : pc + 3 = n1) (hk : KS own idx y cb nY rY na) (hM : CEi aK aV l y cb nY rY rm D dT As [] [] r) (hc0 : rm.cells = 0 ∧ rm.slots = 0) (hR : rm.frames + 1 ≤ R.frames ∧ 8 + (nY + 11) + rm.locals ≤ R.locals) (hna : As.length = na) (hst : st0 = As.reverse ++ st) (hcs : cells ≤ R.cells ∧ slots ≤ R.slots) (hW : (st.map fun v => v.category).sum ≤ 8) (k : WA p l e R s m args below meth c Q D A cells slots nL n1 ws lv (.int r :: st)) : WA p l e R s m args below meth c Q D A cells slots nL pc ws lv (st0) := by
  subst hn; subst hst
  intro H locs ls hP hD hS hl
  have hA := C.2.2.2.2.2.2.1
  have hK := C.2.2.2.2.2.1
  have hPc := (show bP D [] H from fun k q h => by simp at h)
  have hDc : bD A [] := (show va_D A [] from ⟨fun i j p q h => by simp at h, fun k q h => by simp at h⟩)
  have hFc : ∀ q, bA [] H.size q → A q := fun q hq => hq.elim (fun ⟨k, e9, hk9⟩ => by simp at hk9) (fun h9 => hA q (Nat.le_trans hS.1 h9))
  refine va_calli (va_runS (As := As) (rest := st) ⟨C.1, C.2.1, C.2.2.1, C.2.2.2.1, C.2.2.2.2.1⟩ (hM H.size) (cwS9 C.2.2.2.2.1 hk hc0.1 hc0.2 hR) ⟨PE.blind, fun U hU hW => ⟨rfl, by rw [hU], by rw [hU]; exact hPc, va_K.moved hW.alike hK, bD.weaken hDc (fun _ _ => trivial), by rw [hU]; exact AMB.call E hS hFc hW⟩⟩ rfl hna hl.1 rfl (lv_room hW) hdg ⟨hcs.1, hcs.2⟩) hS (fun q _ h => hFc q h) hFc (fun r9 u t H1 locs1 ht hvm hw hB hz1 hk1 hS1 => ?_)
  obtain ⟨hP1, hK1, hD1⟩ := hB
  rw [ht] at hP1
  subst hw
  exact k H1 locs1 ls (fun k9 q hq => (hP k9 q hq).kept (hk1 q.1 (hP k9 q hq).lt (fun h => h.elim (fun ⟨_, _, h⟩ => by simp at h) (fun h => absurd (hP k9 q hq).lt (Nat.not_lt.mpr h))))) hD hS1 hl
theorem we_callSv (C : Cx p s m args meth c cc nL own ret D A dT) (E : AMB aK aV A s s.heap) {y : MethodName} {cb : ByteArray} {nY na idx : Nat} {rY : Option FieldType} {rm : Room} {As st0 : List Value} {wc w1 : List va_W} (n1 : Nat) (hdg : decode cc pc = .ok (.invokestatic idx, 3)) (hn : pc + 3 = n1) (hk : KS own idx y cb nY rY na) (hM : CEv aK aV l y cb nY rY rm D dT As wc w1) (hc0 : rm.cells = 0 ∧ rm.slots = 0) (hR : rm.frames + 1 ≤ R.frames ∧ 8 + (nY + 11) + rm.locals ≤ R.locals) (isC isR isF : List Nat) (hC : bsub isC ws wc) (hRr : bsub isR ws (isR.filterMap (fun i => ws[i]?))) (hnC : va_nd isC = true) (hnR : va_nd isR = true) (hdj : ∀ i ∈ isR, i ∉ isC) (hnF : va_nd isF = true) (hF : bsub isF (isR.filterMap (fun i => ws[i]?) ++ w1) ws') (hna : As.length = na) (hst : st0 = As.reverse ++ st) (hcs : cells ≤ R.cells ∧ slots ≤ R.slots) (hW : (st.map fun v => v.category).sum ≤ 8) (k : WA p l e R s m args below meth c Q D A cells slots nL n1 ws' lv (st)) : WA p l e R s m args below meth c Q D A cells slots nL pc ws lv (st0) := by
  subst hn; subst hst
  intro H locs ls hP hD hS hl
  have hA := C.2.2.2.2.2.2.1
  have hK := C.2.2.2.2.2.1
  have hPc := bP.cut hP hC
  have hDc : bD A wc := bD.cut hD hnC hC
  have hFc : ∀ q, bA wc H.size q → A q := bA_free hD hS hA hC
  refine va_callv (va_runS (As := As) (rest := st) ⟨C.1, C.2.1, C.2.2.1, C.2.2.2.1, C.2.2.2.2.1⟩ (hM H.size) (cwS9 C.2.2.2.2.1 hk hc0.1 hc0.2 hR) ⟨PE.blind, fun U hU hW => ⟨rfl, by rw [hU], by rw [hU]; exact hPc, va_K.moved hW.alike hK, bD.weaken hDc (fun _ _ => trivial), by rw [hU]; exact AMB.call E hS hFc hW⟩⟩ rfl hna hl.1 rfl (lv_room hW) hdg ⟨hcs.1, hcs.2⟩) hS (fun q _ h => hFc q h) hFc (fun u t H1 locs1 ht hvm hw hB hz1 hk1 hS1 => ?_)
  obtain ⟨hP1, hK1, hD1⟩ := hB
  rw [ht] at hP1
  obtain ⟨hP2, hD2⟩ := b_join hP hD hC hRr hnR hdj hk1 hFc hP1 hD1
  exact k H1 locs1 ls (bP.cut hP2 hF) (bD.cut hD2 hnF hF) hS1 hl
theorem we_callS0v (C : Cx p s m args meth c cc nL own ret D A dT) (E : AMB aK aV A s s.heap) {y : MethodName} {cb : ByteArray} {nY na idx : Nat} {rY : Option FieldType} {rm : Room} {As st0 : List Value} (n1 : Nat) (hdg : decode cc pc = .ok (.invokestatic idx, 3)) (hn : pc + 3 = n1) (hk : KS own idx y cb nY rY na) (hM : CEv aK aV l y cb nY rY rm D dT As [] []) (hc0 : rm.cells = 0 ∧ rm.slots = 0) (hR : rm.frames + 1 ≤ R.frames ∧ 8 + (nY + 11) + rm.locals ≤ R.locals) (hna : As.length = na) (hst : st0 = As.reverse ++ st) (hcs : cells ≤ R.cells ∧ slots ≤ R.slots) (hW : (st.map fun v => v.category).sum ≤ 8) (k : WA p l e R s m args below meth c Q D A cells slots nL n1 ws lv (st)) : WA p l e R s m args below meth c Q D A cells slots nL pc ws lv (st0) := by
  subst hn; subst hst
  intro H locs ls hP hD hS hl
  have hA := C.2.2.2.2.2.2.1
  have hK := C.2.2.2.2.2.1
  have hPc := (show bP D [] H from fun k q h => by simp at h)
  have hDc : bD A [] := (show va_D A [] from ⟨fun i j p q h => by simp at h, fun k q h => by simp at h⟩)
  have hFc : ∀ q, bA [] H.size q → A q := fun q hq => hq.elim (fun ⟨k, e9, hk9⟩ => by simp at hk9) (fun h9 => hA q (Nat.le_trans hS.1 h9))
  refine va_callv (va_runS (As := As) (rest := st) ⟨C.1, C.2.1, C.2.2.1, C.2.2.2.1, C.2.2.2.2.1⟩ (hM H.size) (cwS9 C.2.2.2.2.1 hk hc0.1 hc0.2 hR) ⟨PE.blind, fun U hU hW => ⟨rfl, by rw [hU], by rw [hU]; exact hPc, va_K.moved hW.alike hK, bD.weaken hDc (fun _ _ => trivial), by rw [hU]; exact AMB.call E hS hFc hW⟩⟩ rfl hna hl.1 rfl (lv_room hW) hdg ⟨hcs.1, hcs.2⟩) hS (fun q _ h => hFc q h) hFc (fun u t H1 locs1 ht hvm hw hB hz1 hk1 hS1 => ?_)
  obtain ⟨hP1, hK1, hD1⟩ := hB
  rw [ht] at hP1
  exact k H1 locs1 ls (fun k9 q hq => (hP k9 q hq).kept (hk1 q.1 (hP k9 q hq).lt (fun h => h.elim (fun ⟨_, _, h⟩ => by simp at h) (fun h => absurd (hP k9 q hq).lt (Nat.not_lt.mpr h))))) hD hS1 hl
theorem rv_str {y : MethodName} {i : Nat} (E : AMB aK aV A s s.heap) (hi : i < nS) (hy : y.cls = "java/lang/String") : ∀ (H : Heap) (locs : List Loc), bP D ws H → va_S A s.heap H locs → ∃ cell : Cell, H[aK i]? = some cell ∧ cell.vm.isStatics = false ∧ s.vm.findClass y.cls = some cell.cls := fun H locs _ hS => by rw [hy]; exact vk_recv E.1 hi hS
theorem rv_obj {y : MethodName} {b ci : Nat} {w9 : va_W} {fs : List Value} {T9 : u_T} {N9 : Nat} (C : Cx p s m args meth c cc nL own ret D A dT) (b1 q1 : Nat) (hrc : vwCl[ci]? = some (y.cls, T9, N9)) (hr9 : ws[b1]? = some w9) (hre : w9[q1]? = some (b, .inr (ci, fs))) : ∀ (H : Heap) (locs : List Loc), bP D ws H → va_S A s.heap H locs → ∃ cell : Cell, H[b]? = some cell ∧ cell.vm.isStatics = false ∧ s.vm.findClass y.cls = some cell.cls := fun H locs hP _ => va_recv C.2.2.2.2.2.1 hP hrc (flat_get hr9 hre)
end AMBS
