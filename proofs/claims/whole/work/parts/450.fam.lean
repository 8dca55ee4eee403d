section WAF
variable {p : Program} {l : Launch} {e : Env} {R : Room} {s : State} {m : MethodId} {args : Array Value} {below : List Frame} {meth : Method} {c : Code} {Q : State → Prop} {D : va_G} {A : Nat → Prop} {dT : Nat → ClassId} {cells slots nL pc : Nat} {ws ws' : List va_W} {lv lv' : List (Nat × Value)} {st : List Value} {cc : ByteArray} {own : String} {ret : Option FieldType}
/-- a family: how many there are, which one each place of the array holds, their states -/
abbrev FS : Type := Nat × (Nat → Option Nat) × (Nat → Ob)
abbrev CS : Type := (Nat → Int32) × (Nat → Int64) × (Nat → Nat → Int32)
def zV : Ob := (fun _ => 0, fun _ _ => 0)
def upO (f : Nat → Option Nat) (k : Nat) (x : Option Nat) : Nat → Option Nat := fun j => if j = k then x else f j
def sV (f : Nat → Ob) (k : Nat) (x : Ob) : Nat → Ob := fun j => if j = k then x else f j
def pim (ra : Nat → Nat → Nat) (π : Nat → Option Nat) : Nat → Option Nat := fun i => (π i).map (fun k => ra k 0)
/-- a family's block, but for those in S -/
def wRm (dT : Nat → ClassId) (n : Nat) (S : List Nat) (ra : Nat → Nat → Nat) (vs : Nat → Ob) : va_W := (List.range n).flatMap (fun k => if k ∈ S then [] else wV dT (ra k) (vs k))
abbrev wRw (dT : Nat → ClassId) (n : Nat) (ra : Nat → Nat → Nat) (vs : Nat → Ob) : va_W := wRm dT n [] ra vs
/-- Acts: its object and its array of references -/
def wA (dT : Nat → ClassId) (a : Nat → Nat) (rf : Nat → Option Nat) (v : Ob) : va_W := [(a 0, .inr (0, [.int (v.1 0), .ref (a 1)])), (a 1, .inl (dT 4, 40, .inr (.inr (.inr (.inr rf)))))]
/-- Coming: its object and its arrays -/
def wC (dT : Nat → ClassId) (a : Nat → Nat) (hd hw hk : Nat) (rf : Nat → Option Nat) (v : CS) : va_W := [(a 0, .inr (1, [.ref hd, .ref hw, .ref (a 1), .ref (a 2), .ref (a 3), .ref hk, .int (v.1 6)])), (a 1, .inl (dT 4, 201, .inr (.inr (.inr (.inr rf))))), (a 2, .inl (dT 0, 201, .inl (v.2.2 2))), (a 3, .inl (dT 1, 201, .inr (.inl v.2.1)))]
theorem wRm_congr {n : Nat} {S S' : List Nat} {ra u : Nat → Nat → Nat} {vs vs' : Nat → Ob} (h : ∀ j, j < n → (j ∈ S ↔ j ∈ S') ∧ (j ∉ S → u j = ra j ∧ vs' j = vs j)) : wRm dT n S' u vs' = wRm dT n S ra vs := by
  unfold wRm
  rw [List.flatMap_def, List.flatMap_def]
  congr 1
  apply List.map_congr_left
  intro j hj
  obtain ⟨h1, h2⟩ := h j (List.mem_range.mp hj)
  by_cases e9 : j ∈ S
  · rw [if_pos e9, if_pos (h1.mp e9)]
  · rw [if_neg e9, if_neg (fun z => e9 (h1.mpr z)), (h2 e9).1, (h2 e9).2]
theorem wRm_succ {n : Nat} {S : List Nat} {ra : Nat → Nat → Nat} {vs : Nat → Ob} : wRm dT (n + 1) S ra vs = wRm dT n S ra vs ++ (if n ∈ S then [] else wV dT (ra n) (vs n)) := by
  unfold wRm
  rw [List.range_succ, List.flatMap_append]
  simp
theorem wRm_perm {n k : Nat} {S : List Nat} {ra : Nat → Nat → Nat} {vs : Nat → Ob} (hk : k < n) (hS : k ∉ S) : (wRm dT n S ra vs).Perm (wRm dT n (k :: S) ra vs ++ wV dT (ra k) (vs k)) := by
  induction n with
  | zero => exact absurd hk (Nat.not_lt_zero _)
  | succ n ih =>
    rw [wRm_succ, wRm_succ]
    by_cases e9 : n = k
    · subst e9
      rw [if_neg hS, if_pos List.mem_cons_self, List.append_nil]
      rw [wRm_congr (S := S) (S' := n :: S) (u := ra) (ra := ra) (vs := vs) (vs' := vs) (fun j hj => ⟨⟨fun h => List.mem_cons_of_mem _ h, fun h => (List.mem_cons.mp h).elim (fun e8 => absurd e8 (by omega)) id⟩, fun _ => ⟨rfl, rfl⟩⟩)]
    · have h2 : (n ∈ k :: S) ↔ n ∈ S := ⟨fun h => (List.mem_cons.mp h).elim (fun e8 => absurd e8 e9) id, fun h => List.mem_cons_of_mem _ h⟩
      have h3 : (if n ∈ k :: S then [] else wV dT (ra n) (vs n)) = (if n ∈ S then [] else wV dT (ra n) (vs n)) := by
        by_cases h4 : n ∈ S
        · rw [if_pos h4, if_pos (h2.mpr h4)]
        · rw [if_neg h4, if_neg (fun z => h4 (h2.mp z))]
      rw [h3]
      refine List.Perm.trans (List.Perm.append_right _ (ih (by omega))) ?_
      rw [List.append_assoc, List.append_assoc]
      exact List.Perm.append_left _ List.perm_append_comm
theorem wRm_sV {n k : Nat} {S : List Nat} {ra : Nat → Nat → Nat} {vs : Nat → Ob} {v : Ob} : wRm dT n (k :: S) ra (sV vs k v) = wRm dT n (k :: S) ra vs := wRm_congr (fun j _ => ⟨Iff.rfl, fun h => ⟨rfl, by unfold sV; rw [if_neg (fun e9 => h (by rw [e9]; exact List.mem_cons_self))]⟩⟩)
theorem sV_at {vs : Nat → Ob} {k : Nat} {v : Ob} : sV vs k v k = v := by unfold sV; rw [if_pos rfl]
/-- one more of a family, at new addresses -/
theorem wRw_push {n : Nat} {ra u : Nat → Nat → Nat} {vs : Nat → Ob} {v : Ob} (hu : ∀ k, k ≠ n → u k = ra k) : wRw dT (n + 1) u (sV vs n v) = wRw dT n ra vs ++ wV dT (u n) v := by
  unfold wRw
  rw [wRm_succ, if_neg List.not_mem_nil, sV_at]
  congr 1
  exact wRm_congr (fun j hj => ⟨Iff.rfl, fun _ => ⟨hu j (by omega), by unfold sV; rw [if_neg (by omega)]⟩⟩)
theorem flat_openB {bs : List va_W} {b : Nat} {w0 w1 w2 : va_W} (hb : bs[b]? = some w0) (hp : w0.Perm (w1 ++ w2)) : (bs.set b w1 ++ [w2]).flatten.Perm bs.flatten := by
  rw [List.flatten_append]
  refine List.Perm.trans (List.Perm.append_right _ (flat_perm_set hb)) (List.Perm.trans ?_ (List.Perm.symm (flat_perm_get hb)))
  simp only [List.flatten_cons, List.flatten_nil, List.append_nil]
  rw [List.append_assoc]
  refine List.Perm.trans (List.Perm.append_left _ List.perm_append_comm) ?_
  rw [← List.append_assoc]
  exact List.Perm.append_right _ hp.symm
/-- the k-th village out of its family's block, to the end -/
theorem wa_openF (b k : Nat) {n : Nat} {S : List Nat} {ra : Nat → Nat → Nat} {vs : Nat → Ob} (hk : k < n) (hS : k ∉ S) (hb : ws[b]? = some (wRm dT n S ra vs)) (kk : WA p l e R s m args below meth c Q D A cells slots nL pc (ws.set b (wRm dT n (k :: S) ra vs) ++ [wV dT (ra k) (vs k)]) lv (st)) : WA p l e R s m args below meth c Q D A cells slots nL pc ws lv (st) := wa_perm (flat_openB hb (wRm_perm hk hS)) kk
/-- .. and back, with a new state -/
theorem wa_closeF (b k : Nat) {n : Nat} {S : List Nat} {ra : Nat → Nat → Nat} {vs vs' : Nat → Ob} {v : Ob} (hk : k < n) (hS : k ∉ S) (hb : ws[b]? = some (wRm dT n (k :: S) ra vs)) (hv : vs' = sV vs k v) (hw : ws.set b (wRm dT n S ra vs') = ws') (kk : WA p l e R s m args below meth c Q D A cells slots nL pc ws' lv (st)) : WA p l e R s m args below meth c Q D A cells slots nL pc (ws ++ [wV dT (ra k) v]) lv (st) := by
  subst hw; subst hv
  refine wa_perm ?_ kk
  have h1 : (ws.set b (wRm dT n S ra (sV vs k v)))[b]? = some (wRm dT n S ra (sV vs k v)) := by
    have := (List.getElem?_eq_some_iff.mp hb).1
    simp [this]
  have h2 := flat_openB h1 (wRm_perm hk hS)
  rw [sV_at, wRm_sV, List.set_set, set_self hb] at h2
  exact h2.symm
/-- .. unchanged -/
theorem wa_closeR (b k : Nat) {n : Nat} {S : List Nat} {ra : Nat → Nat → Nat} {vs : Nat → Ob} (hk : k < n) (hS : k ∉ S) (hb : ws[b]? = some (wRm dT n (k :: S) ra vs)) (hw : ws.set b (wRm dT n S ra vs) = ws') (kk : WA p l e R s m args below meth c Q D A cells slots nL pc ws' lv (st)) : WA p l e R s m args below meth c Q D A cells slots nL pc (ws ++ [wV dT (ra k) (vs k)]) lv (st) := by
  refine wa_closeF b k hk hS hb (vs' := vs) ?_ hw kk
  funext j
  unfold sV
  by_cases e9 : j = k
  · rw [if_pos e9, e9]
  · rw [if_neg e9]
theorem pim_some {ra : Nat → Nat → Nat} {π : Nat → Option Nat} {i k : Nat} (h : π i = some k) : va_rf (pim ra π i) = .ref (ra k 0) := by
  unfold pim
  rw [h]
  rfl
theorem pim_none {ra : Nat → Nat → Nat} {π : Nat → Option Nat} {i : Nat} (h : π i = none) : va_rf (pim ra π i) = .null := by
  unfold pim
  rw [h]
  rfl
/-- a place of an array of references -/
theorem wa_aldr (C : Cx p s m args meth c cc nL own ret D A dT) {a n : Nat} {ra : Nat → Nat → Nat} {π : Nat → Option Nat} {i : Int32} {v : Value} (n1 b0 q0 : Nat) {w0 : va_W} (hdg : decode cc pc = .ok (.aaload, 1)) (hn : pc + 1 = n1) (hb0 : ws[b0]? = some w0) (ha : w0[q0]? = some (a, .inl (dT 4, n, .inr (.inr (.inr (.inr (pim ra π))))))) (hi : vp_in i n) (hv : va_rf (pim ra π i.toNatClampNeg) = v) (k : WA p l e R s m args below meth c Q D A cells slots nL n1 ws lv (v :: st)) : WA p l e R s m args below meth c Q D A cells slots nL pc ws lv (.int i :: .ref a :: st) := by
  subst hn; subst hv
  exact fun H locs ls hP hD hS hl => va_aldq C.1 C.2.1 C.2.2.2.2.2.1 hP (bix ws b0 q0) 4 (flat_get hb0 ha) rfl hi hdg (k H locs ls hP hD hS hl)
/-- the store of a village's reference: its object lies in the world -/
theorem wa_astr (C : Cx p s m args meth c cc nL own ret D A dT) {a n v ci : Nat} {r : vw_C} {vs : List Value} {f : Nat → Option Nat} {i : Int32} (n1 b0 q0 : Nat) {w0 : va_W} (hdg : decode cc pc = .ok (.aastore, 1)) (hn : pc + 1 = n1) (hb0 : ws[b0]? = some w0) (ha : w0[q0]? = some (a, .inl (dT 4, n, .inr (.inr (.inr (.inr f)))))) (hin : ∃ w ∈ ws, (v, (.inr (ci, vs) : va_E)) ∈ w) (hc : vwCl[ci]? = some r) (hr : r.1 = "NewHouses$Village") (hi : vp_in i n) (hw : ws.set b0 (w0.set q0 (a, .inl (dT 4, n, .inr (.inr (.inr (.inr (va_up f i.toNatClampNeg (some v)))))))) = ws') (k : WA p l e R s m args below meth c Q D A cells slots nL n1 ws' lv (st)) : WA p l e R s m args below meth c Q D A cells slots nL pc ws lv (.ref v :: .int i :: .ref a :: st) := by
  subst hn; subst hw
  obtain ⟨w9, hw9, hv9⟩ := hin
  obtain ⟨qk, hqk⟩ := List.mem_iff_getElem?.mp (List.mem_flatten.mpr ⟨w9, hw9, hv9⟩)
  exact fun H locs ls hP hD hS hl => va_astq C.1 C.2.1 C.2.2.2.2.2.1 hP hD hS (bix ws b0 q0) 4 qk ci (flat_get hb0 ha) (by rw [hr]; rfl) hqk hc hi hdg (fun H1 locs1 hP hD hS => by rw [flat_set hb0 (List.getElem?_eq_some_iff.mp ha).1] at hP hD; exact k H1 locs1 ls hP hD hS hl)
theorem wa_nonnull (C : Cx p s m args meth c cc nL own ret D A dT) {x : Nat} {off : Int} (tgt : Nat) (hdg : decode cc pc = .ok (.ifnonnull off, 3)) (ht : (pc : Int) + off = (tgt : Int)) (k : WA p l e R s m args below meth c Q D A cells slots nL tgt ws lv (st)) : WA p l e R s m args below meth c Q D A cells slots nL pc ws lv (.ref x :: st) := fun H locs ls hP hD hS hl => lv_ifnonnull C.1 C.2.1 hdg ht (k H locs ls hP hD hS hl)
theorem wa_isnull (C : Cx p s m args meth c cc nL own ret D A dT) {off : Int} (n1 : Nat) (hdg : decode cc pc = .ok (.ifnonnull off, 3)) (hn : pc + 3 = n1) (k : WA p l e R s m args below meth c Q D A cells slots nL n1 ws lv (st)) : WA p l e R s m args below meth c Q D A cells slots nL pc ws lv (.null :: st) := by
  subst hn
  exact fun H locs ls hP hD hS hl => lv_ifnonnullN C.1 C.2.1 hdg (k H locs ls hP hD hS hl)
theorem wa_cast {st' : List Value} (h1 : lv = lv') (h2 : st = st') (k : WA p l e R s m args below meth c Q D A cells slots nL pc ws lv' (st')) : WA p l e R s m args below meth c Q D A cells slots nL pc ws lv (st) := h1 ▸ h2 ▸ k
theorem wRm_in {n k : Nat} {ra : Nat → Nat → Nat} {vs : Nat → Ob} (hk : k < n) : ∃ fs, (ra k 0, (.inr (10, fs) : va_E)) ∈ wRm dT n [] ra vs := by
  have h1 : ∃ fs, (ra k 0, (.inr (10, fs) : va_E)) ∈ wV dT (ra k) (vs k) := ⟨_, List.mem_of_getElem? (i := 0) rfl⟩
  obtain ⟨fs, h1⟩ := h1
  exact ⟨fs, List.mem_flatMap.mpr ⟨k, List.mem_range.mpr hk, by rw [if_neg List.not_mem_nil]; exact h1⟩⟩
theorem wa_astk (C : Cx p s m args meth c cc nL own ret D A dT) {a n k nF : Nat} {ra : Nat → Nat → Nat} {π : Nat → Option Nat} {vs9 : Nat → Ob} {i : Int32} (n1 b0 q0 bF : Nat) {w0 : va_W} (hdg : decode cc pc = .ok (.aastore, 1)) (hn : pc + 1 = n1) (hb0 : ws[b0]? = some w0) (ha : w0[q0]? = some (a, .inl (dT 4, n, .inr (.inr (.inr (.inr (pim ra π))))))) (hbF : ws[bF]? = some (wRm dT nF [] ra vs9)) (hk : k < nF) (hi : vp_in i n) (hw : ws.set b0 (w0.set q0 (a, .inl (dT 4, n, .inr (.inr (.inr (.inr (pim ra (upO π i.toNatClampNeg (some k)))))))))  = ws') (kk : WA p l e R s m args below meth c Q D A cells slots nL n1 ws' lv (st)) : WA p l e R s m args below meth c Q D A cells slots nL pc ws lv (.ref (ra k 0) :: .int i :: .ref a :: st) := by
  obtain ⟨fs, hin⟩ := wRm_in (dT := dT) (ra := ra) (vs := vs9) hk
  refine wa_astr (ci := 10) (vs := fs) C n1 b0 q0 hdg hn hb0 ha ⟨_, List.mem_of_getElem? hbF, hin⟩ rfl rfl hi ?_ kk
  rw [← hw]
  have h9 : va_up (pim ra π) i.toNatClampNeg (some (ra k 0)) = pim ra (upO π i.toNatClampNeg (some k)) := by
    funext j
    unfold va_up pim upO
    by_cases e9 : j = i.toNatClampNeg
    · rw [if_pos e9, if_pos e9]; rfl
    · rw [if_neg e9, if_neg e9]
  rw [h9]
/-- cells of an array of references are told by the places below its length -/
theorem rf_cell {n : Nat} {f g : Nat → Option Nat} (h : ∀ j, j < n → f j = g j) (cA : ClassId) : vp_cell cA (n, .inr (.inr (.inr (.inr f)))) = vp_cell cA (n, .inr (.inr (.inr (.inr g)))) := by
  rw [vp_cell_q, vp_cell_q]
  unfold arrV
  congr 1
  congr 1
  funext j
  show va_rf (f j.val) = va_rf (g j.val)
  rw [h j.val j.isLt]
theorem wa_rf {n a b0 q0 : Nat} {w0 : va_W} {f g : Nat → Option Nat} (h : ∀ j, j < n → f j = g j) (hb0 : ws[b0]? = some w0) (ha : w0[q0]? = some (a, .inl (dT 4, n, .inr (.inr (.inr (.inr f)))))) (hw : ws.set b0 (w0.set q0 (a, .inl (dT 4, n, .inr (.inr (.inr (.inr g)))))) = ws') (k : WA p l e R s m args below meth c Q D A cells slots nL pc ws' lv (st)) : WA p l e R s m args below meth c Q D A cells slots nL pc ws lv (st) := by
  subst hw
  intro H locs ls hP hD hS hl
  have hlen := (List.getElem?_eq_some_iff.mp ha).1
  have hfl := flat_get hb0 ha
  refine k H locs ls ?_ ?_ hS hl
  · unfold bP
    rw [← flat_set hb0 hlen]
    intro k9 q9 hq9
    rw [List.getElem?_set] at hq9
    by_cases e9 : bix ws b0 q0 = k9
    · rw [if_pos e9] at hq9
      by_cases e8 : bix ws b0 q0 < ws.flatten.length
      · rw [if_pos e8] at hq9
        cases hq9
        have h1 := hP _ _ hfl
        unfold va_at at h1 ⊢
        dsimp only at h1 ⊢
        rw [h1, rf_cell h]
      · rw [if_neg e8] at hq9; cases hq9
    · rw [if_neg e9] at hq9
      exact hP k9 q9 hq9
  · unfold bD
    rw [← flat_set hb0 hlen]
    rw [vD_mem]
    have h2 := vD_mem.mp hD
    have h3 : (ws.flatten.set (bix ws b0 q0) (a, (.inl (dT 4, n, .inr (.inr (.inr (.inr g)))) : va_E))).map (fun z => z.1) = ws.flatten.map (fun z => z.1) := by
      rw [List.map_set]
      apply set_self
      rw [List.getElem?_map, hfl]
      rfl
    constructor
    · have h4 : (ws.flatten.map (fun z => z.1)).Pairwise (fun x y => x ≠ y) := List.pairwise_map.mpr h2.1
      rw [← h3] at h4
      exact List.pairwise_map.mp h4
    · intro q hq
      have h5 : q.1 ∈ ws.flatten.map (fun z => z.1) := by
        rw [← h3]
        exact List.mem_map.mpr ⟨q, hq, rfl⟩
      obtain ⟨q2, hq2, e2⟩ := List.mem_map.mp h5
      rw [← e2]
      exact h2.2 q2 hq2
/-! methods that make: the world behind is told up to new addresses u with G u; mc cells of ms slots at most -/
def CMi (l : Launch) (y : MethodName) (cb : ByteArray) (n : Nat) (ret : Option FieldType) (rm : Room) (D : va_G) (dT : Nat → ClassId) (av : List Value) (w0 : List va_W) {S : Type} (G : S → Prop) (W1 : S → List va_W) (r : Int32) (mc ms : Nat) : Prop := ∀ sz, Met l y (mws y cb n ret) rm (PC D dT w0 sz av) (va_Qi (fun r9 u => r9 = r ∧ G u) (fun u t => WB D dT (bA w0 sz) (W1 u) t) (bA w0 sz)) mc ms (bA w0 sz)
def CMv (l : Launch) (y : MethodName) (cb : ByteArray) (n : Nat) (ret : Option FieldType) (rm : Room) (D : va_G) (dT : Nat → ClassId) (av : List Value) (w0 : List va_W) {S : Type} (G : S → Prop) (W1 : S → List va_W) (mc ms : Nat) : Prop := ∀ sz, Met l y (mws y cb n ret) rm (PC D dT w0 sz av) (va_Qv G (fun u t => WB D dT (bA w0 sz) (W1 u) t) (bA w0 sz)) mc ms (bA w0 sz)
def CMr (l : Launch) (y : MethodName) (cb : ByteArray) (n : Nat) (ret : Option FieldType) (rm : Room) (D : va_G) (dT : Nat → ClassId) (av : List Value) (w0 : List va_W) {S : Type} (G : S → Prop) (W1 : S → List va_W) (ad : S → Nat) (mc ms : Nat) : Prop := ∀ sz, Met l y (mws y cb n ret) rm (PC D dT w0 sz av) (va_Qr G (fun u a t => a = ad u ∧ WB D dT (bA w0 sz) (W1 u) t) (bA w0 sz)) mc ms (bA w0 sz)
theorem CMi.of {y : MethodName} {cb : ByteArray} {n mc ms : Nat} {rm : Room} {av : List Value} {w0 : List va_W} {S : Type} {G : S → Prop} {W1 : S → List va_W} {r : Int32} {lv0 : List (Nat × Value)} (hy : plainName y.cls = true) (hlen : (lg_sl av).length ≤ n) (hlv : lv_args 0 av = lv0)
    (body : ∀ p e s m args below meth c A, Cx p s m args meth c cb n y.cls ret D A dT → WA p l e rm s m args below meth c (MQ below (va_Qi (fun r9 u => r9 = r ∧ G u) (fun u t => WB D dT A (W1 u) t) A) args s mc ms A) D A 0 0 n 0 w0 lv0 []) : CMi l y cb n ret rm D dT av w0 G W1 r mc ms := by
  intro sz
  refine Met.ofW (cc := cb) (maxL := n) (ret := ret) hy rfl ?_
  intro p e s m args below meth c s₁ B hml hv
  obtain ⟨rfl, hsz, hP, hK, hD0⟩ := hv
  have hts := atoms_spec (ws := mws y cb n ret) B.pre
  subst hsz
  have hC : Cx p s m av.toArray meth c cb n y.cls ret D (bA w0 s.heap.size) dT := ⟨B.exec, B.bytes, hml, findClass_of_methodNamed B.named, fun w h => hts w (List.mem_cons_of_mem _ h), hK, fun q h => Or.inr h, B.returns, B.notSynchronized⟩
  have h9 := body p e s m av.toArray below meth c (bA w0 s.heap.size) hC
  rw [lg_entry_eq]
  exact h9 s.heap [] _ hP (va_D.self (sz := s.heap.size) hD0) va_S.rf (hlv ▸ lv_entry av hlen)
theorem CMv.of {y : MethodName} {cb : ByteArray} {n mc ms : Nat} {rm : Room} {av : List Value} {w0 : List va_W} {S : Type} {G : S → Prop} {W1 : S → List va_W} {lv0 : List (Nat × Value)} (hy : plainName y.cls = true) (hlen : (lg_sl av).length ≤ n) (hlv : lv_args 0 av = lv0)
    (body : ∀ p e s m args below meth c A, Cx p s m args meth c cb n y.cls ret D A dT → WA p l e rm s m args below meth c (MQ below (va_Qv G (fun u t => WB D dT A (W1 u) t) A) args s mc ms A) D A 0 0 n 0 w0 lv0 []) : CMv l y cb n ret rm D dT av w0 G W1 mc ms := by
  intro sz
  refine Met.ofW (cc := cb) (maxL := n) (ret := ret) hy rfl ?_
  intro p e s m args below meth c s₁ B hml hv
  obtain ⟨rfl, hsz, hP, hK, hD0⟩ := hv
  have hts := atoms_spec (ws := mws y cb n ret) B.pre
  subst hsz
  have hC : Cx p s m av.toArray meth c cb n y.cls ret D (bA w0 s.heap.size) dT := ⟨B.exec, B.bytes, hml, findClass_of_methodNamed B.named, fun w h => hts w (List.mem_cons_of_mem _ h), hK, fun q h => Or.inr h, B.returns, B.notSynchronized⟩
  have h9 := body p e s m av.toArray below meth c (bA w0 s.heap.size) hC
  rw [lg_entry_eq]
  exact h9 s.heap [] _ hP (va_D.self (sz := s.heap.size) hD0) va_S.rf (hlv ▸ lv_entry av hlen)
theorem CMr.of {y : MethodName} {cb : ByteArray} {n mc ms : Nat} {rm : Room} {av : List Value} {w0 : List va_W} {S : Type} {G : S → Prop} {W1 : S → List va_W} {ad : S → Nat} {lv0 : List (Nat × Value)} (hy : plainName y.cls = true) (hlen : (lg_sl av).length ≤ n) (hlv : lv_args 0 av = lv0)
    (body : ∀ p e s m args below meth c A, Cx p s m args meth c cb n y.cls ret D A dT → WA p l e rm s m args below meth c (MQ below (va_Qr G (fun u a t => a = ad u ∧ WB D dT A (W1 u) t) A) args s mc ms A) D A 0 0 n 0 w0 lv0 []) : CMr l y cb n ret rm D dT av w0 G W1 ad mc ms := by
  intro sz
  refine Met.ofW (cc := cb) (maxL := n) (ret := ret) hy rfl ?_
  intro p e s m args below meth c s₁ B hml hv
  obtain ⟨rfl, hsz, hP, hK, hD0⟩ := hv
  have hts := atoms_spec (ws := mws y cb n ret) B.pre
  subst hsz
  have hC : Cx p s m av.toArray meth c cb n y.cls ret D (bA w0 s.heap.size) dT := ⟨B.exec, B.bytes, hml, findClass_of_methodNamed B.named, fun w h => hts w (List.mem_cons_of_mem _ h), hK, fun q h => Or.inr h, B.returns, B.notSynchronized⟩
  have h9 := body p e s m av.toArray below meth c (bA w0 s.heap.size) hC
  rw [lg_entry_eq]
  exact h9 s.heap [] _ hP (va_D.self (sz := s.heap.size) hD0) va_S.rf (hlv ▸ lv_entry av hlen)
theorem wa_irm {S : Type} {G : S → Prop} {W1 : S → List va_W} {r v : Int32} {mc ms : Nat} (C : Cx p s m args meth c cc nL own (some .int) D A dT) (u : S) (hdg : decode cc pc = .ok (.ireturn, 1)) (hg : G u) (hw : ws = W1 u) (hv : v = r) (h1 : cells ≤ mc) (h2 : slots ≤ ms) : WA p l e R s m args below meth c (MQ below (va_Qi (fun r9 u => r9 = r ∧ G u) (fun u t => WB D dT A (W1 u) t) A) args s mc ms A) D A cells slots nL pc ws lv [.int v] := by
  subst hw; subst hv
  intro H locs ls hP hD hS hl
  refine W.widen h1 h2 ?_
  exact W.iret C.1 C.2.1 C.2.2.2.2.2.2.2.1 (fun t ht hW => ⟨⟨v, u, rfl, ⟨rfl, hg⟩, by rw [ht]; exact hP, va_K.moved hW.alike C.2.2.2.2.2.1, hD⟩, hS.F ht⟩) hS.2.2 hdg C.2.2.2.2.2.2.2.2
theorem wa_zrm {S : Type} {G : S → Prop} {W1 : S → List va_W} {r v : Int32} {mc ms : Nat} (C : Cx p s m args meth c cc nL own (some .boolean) D A dT) (u : S) (hdg : decode cc pc = .ok (.ireturn, 1)) (hz : narrow .boolean (.int v) = .int v) (hg : G u) (hw : ws = W1 u) (hv : v = r) (h1 : cells ≤ mc) (h2 : slots ≤ ms) : WA p l e R s m args below meth c (MQ below (va_Qi (fun r9 u => r9 = r ∧ G u) (fun u t => WB D dT A (W1 u) t) A) args s mc ms A) D A cells slots nL pc ws lv [.int v] := by
  subst hw; subst hv
  intro H locs ls hP hD hS hl
  refine W.widen h1 h2 ?_
  exact W.zret C.1 C.2.1 C.2.2.2.2.2.2.2.1 hz (fun t ht hW => ⟨⟨v, u, rfl, ⟨rfl, hg⟩, by rw [ht]; exact hP, va_K.moved hW.alike C.2.2.2.2.2.1, hD⟩, hS.F ht⟩) hS.2.2 hdg C.2.2.2.2.2.2.2.2
theorem wa_vrm {S : Type} {G : S → Prop} {W1 : S → List va_W} {mc ms : Nat} (C : Cx p s m args meth c cc nL own none D A dT) (u : S) (hdg : decode cc pc = .ok (.return_, 1)) (hg : G u) (hw : ws = W1 u) (h1 : cells ≤ mc) (h2 : slots ≤ ms) : WA p l e R s m args below meth c (MQ below (va_Qv G (fun u t => WB D dT A (W1 u) t) A) args s mc ms A) D A cells slots nL pc ws lv [] := by
  subst hw
  intro H locs ls hP hD hS hl
  refine W.widen h1 h2 ?_
  exact W.vret C.1 C.2.1 C.2.2.2.2.2.2.2.1 (fun t ht hW => ⟨⟨u, rfl, hg, by rw [ht]; exact hP, va_K.moved hW.alike C.2.2.2.2.2.1, hD⟩, hS.F ht⟩) hS.2.2 hdg C.2.2.2.2.2.2.2.2
theorem wa_arm {S : Type} {G : S → Prop} {W1 : S → List va_W} {ad : S → Nat} {C9 : String} {v mc ms : Nat} (C : Cx p s m args meth c cc nL own (some (.object C9)) D A dT) (u : S) (hdg : decode cc pc = .ok (.areturn, 1)) (hg : G u) (hw : ws = W1 u) (hv : v = ad u) (h1 : cells ≤ mc) (h2 : slots ≤ ms) : WA p l e R s m args below meth c (MQ below (va_Qr G (fun u a t => a = ad u ∧ WB D dT A (W1 u) t) A) args s mc ms A) D A cells slots nL pc ws lv [.ref v] := by
  subst hw; subst hv
  intro H locs ls hP hD hS hl
  refine W.widen h1 h2 ?_
  exact W.aret C.1 C.2.1 C.2.2.2.2.2.2.2.1 (Or.inl ⟨_, rfl⟩) (Or.inr ⟨_, rfl⟩) (fun t ht hW => ⟨⟨u, ad u, rfl, hg, rfl, by rw [ht]; exact hP, va_K.moved hW.alike C.2.2.2.2.2.1, hD⟩, hS.F ht⟩) hS.2.2 hdg C.2.2.2.2.2.2.2.2
theorem wa_callMi (C : Cx p s m args meth c cc nL own ret D A dT) {y : MethodName} {cb : ByteArray} {nY na idx mc ms b ci b1 q1 : Nat} {w9 : va_W} {fs : List Value} {T9 : u_T} {N9 : Nat} {rY : Option FieldType} {rm : Room} {As st0 : List Value} {wc : List va_W} {S : Type} {G : S → Prop} {W1 : S → List va_W} {r : Int32} (wf : S → List va_W) (n1 : Nat) (hdg : decode cc pc = .ok (.invokevirtual idx, 3)) (hn : pc + 3 = n1) (hk : KV own idx y cb nY rY na) (hM : CMi l y cb nY rY rm D dT (.ref b :: As) wc G W1 r mc ms) (hc0 : rm.cells = mc ∧ rm.slots = ms) (hR : rm.frames + 1 ≤ R.frames ∧ 8 + (nY + 11) + rm.locals ≤ R.locals) (hrc : vwCl[ci]? = some (y.cls, T9, N9)) (hr9 : ws[b1]? = some w9) (hre : w9[q1]? = some (b, .inr (ci, fs))) (isC isR isF : List Nat) (hC : bsub isC ws wc) (hRr : bsub isR ws (isR.filterMap (fun i => ws[i]?))) (hnC : va_nd isC = true) (hnR : va_nd isR = true) (hdj : ∀ i ∈ isR, i ∉ isC) (hnF : va_nd isF = true) (hF : ∀ u, bsub isF (isR.filterMap (fun i => ws[i]?) ++ W1 u) (wf u)) (hna : As.length = na) (hst : st0 = As.reverse ++ .ref b :: st) (hcs : cells + mc ≤ R.cells ∧ slots + ms ≤ R.slots) (hW : (st.map fun v => v.category).sum ≤ 8) (k : ∀ u : S, G u → WA p l e R s m args below meth c Q D A (cells + mc) (slots + ms) nL n1 (wf u) lv (.int r :: st)) : WA p l e R s m args below meth c Q D A cells slots nL pc ws lv (st0) := by
  subst hn; subst hst
  intro H locs ls hP hD hS hl
  have hA := C.2.2.2.2.2.2.1
  have hK := C.2.2.2.2.2.1
  have hPc := bP.cut hP hC
  have hDc : bD A wc := bD.cut hD hnC hC
  have hFc : ∀ q, bA wc H.size q → A q := bA_free hD hS hA hC
  refine va_calli (va_runV (As := As) (rest := st) ⟨C.1, C.2.1, C.2.2.1, C.2.2.2.1, C.2.2.2.2.1⟩ (hM H.size) (cwV na C.2.2.2.2.1 hk.1 rfl hc0.1 hc0.2 hk.2 hR) ⟨PC.blind, va_recv hK hP hrc (flat_get hr9 hre), fun U hU hW => ⟨rfl, by rw [hU], by rw [hU]; exact hPc, va_K.moved hW.alike hK, bD.weaken hDc (fun _ _ => trivial)⟩⟩ rfl hna hl.1 rfl (lv_room hW) hdg hcs) hS (fun q _ h => hFc q h) hFc (fun r9 u t H1 locs1 ht hvm hw hB hz1 hk1 hS1 => ?_)
  obtain ⟨rfl, hg⟩ := hw
  obtain ⟨hP1, hK1, hD1⟩ := hB
  rw [ht] at hP1
  obtain ⟨hP2, hD2⟩ := b_join hP hD hC hRr hnR hdj hk1 hFc hP1 hD1
  exact k u hg H1 locs1 ls (bP.cut hP2 (hF u)) (bD.cut hD2 hnF (hF u)) hS1 hl
theorem wa_callMv (C : Cx p s m args meth c cc nL own ret D A dT) {y : MethodName} {cb : ByteArray} {nY na idx mc ms b ci b1 q1 : Nat} {w9 : va_W} {fs : List Value} {T9 : u_T} {N9 : Nat} {rY : Option FieldType} {rm : Room} {As st0 : List Value} {wc : List va_W} {S : Type} {G : S → Prop} {W1 : S → List va_W} (wf : S → List va_W) (n1 : Nat) (hdg : decode cc pc = .ok (.invokevirtual idx, 3)) (hn : pc + 3 = n1) (hk : KV own idx y cb nY rY na) (hM : CMv l y cb nY rY rm D dT (.ref b :: As) wc G W1 mc ms) (hc0 : rm.cells = mc ∧ rm.slots = ms) (hR : rm.frames + 1 ≤ R.frames ∧ 8 + (nY + 11) + rm.locals ≤ R.locals) (hrc : vwCl[ci]? = some (y.cls, T9, N9)) (hr9 : ws[b1]? = some w9) (hre : w9[q1]? = some (b, .inr (ci, fs))) (isC isR isF : List Nat) (hC : bsub isC ws wc) (hRr : bsub isR ws (isR.filterMap (fun i => ws[i]?))) (hnC : va_nd isC = true) (hnR : va_nd isR = true) (hdj : ∀ i ∈ isR, i ∉ isC) (hnF : va_nd isF = true) (hF : ∀ u, bsub isF (isR.filterMap (fun i => ws[i]?) ++ W1 u) (wf u)) (hna : As.length = na) (hst : st0 = As.reverse ++ .ref b :: st) (hcs : cells + mc ≤ R.cells ∧ slots + ms ≤ R.slots) (hW : (st.map fun v => v.category).sum ≤ 8) (k : ∀ u : S, G u → WA p l e R s m args below meth c Q D A (cells + mc) (slots + ms) nL n1 (wf u) lv (st)) : WA p l e R s m args below meth c Q D A cells slots nL pc ws lv (st0) := by
  subst hn; subst hst
  intro H locs ls hP hD hS hl
  have hA := C.2.2.2.2.2.2.1
  have hK := C.2.2.2.2.2.1
  have hPc := bP.cut hP hC
  have hDc : bD A wc := bD.cut hD hnC hC
  have hFc : ∀ q, bA wc H.size q → A q := bA_free hD hS hA hC
  refine va_callv (va_runV (As := As) (rest := st) ⟨C.1, C.2.1, C.2.2.1, C.2.2.2.1, C.2.2.2.2.1⟩ (hM H.size) (cwV na C.2.2.2.2.1 hk.1 rfl hc0.1 hc0.2 hk.2 hR) ⟨PC.blind, va_recv hK hP hrc (flat_get hr9 hre), fun U hU hW => ⟨rfl, by rw [hU], by rw [hU]; exact hPc, va_K.moved hW.alike hK, bD.weaken hDc (fun _ _ => trivial)⟩⟩ rfl hna hl.1 rfl (lv_room hW) hdg hcs) hS (fun q _ h => hFc q h) hFc (fun u t H1 locs1 ht hvm hw hB hz1 hk1 hS1 => ?_)
  have hg := hw
  obtain ⟨hP1, hK1, hD1⟩ := hB
  rw [ht] at hP1
  obtain ⟨hP2, hD2⟩ := b_join hP hD hC hRr hnR hdj hk1 hFc hP1 hD1
  exact k u hg H1 locs1 ls (bP.cut hP2 (hF u)) (bD.cut hD2 hnF (hF u)) hS1 hl
theorem wa_callMr (C : Cx p s m args meth c cc nL own ret D A dT) {y : MethodName} {cb : ByteArray} {nY na idx mc ms b ci b1 q1 : Nat} {w9 : va_W} {fs : List Value} {T9 : u_T} {N9 : Nat} {rY : Option FieldType} {rm : Room} {As st0 : List Value} {wc : List va_W} {S : Type} {G : S → Prop} {W1 : S → List va_W} {ad : S → Nat} (wf : S → List va_W) (n1 : Nat) (hdg : decode cc pc = .ok (.invokevirtual idx, 3)) (hn : pc + 3 = n1) (hk : KV own idx y cb nY rY na) (hM : CMr l y cb nY rY rm D dT (.ref b :: As) wc G W1 ad mc ms) (hc0 : rm.cells = mc ∧ rm.slots = ms) (hR : rm.frames + 1 ≤ R.frames ∧ 8 + (nY + 11) + rm.locals ≤ R.locals) (hrc : vwCl[ci]? = some (y.cls, T9, N9)) (hr9 : ws[b1]? = some w9) (hre : w9[q1]? = some (b, .inr (ci, fs))) (isC isR isF : List Nat) (hC : bsub isC ws wc) (hRr : bsub isR ws (isR.filterMap (fun i => ws[i]?))) (hnC : va_nd isC = true) (hnR : va_nd isR = true) (hdj : ∀ i ∈ isR, i ∉ isC) (hnF : va_nd isF = true) (hF : ∀ u, bsub isF (isR.filterMap (fun i => ws[i]?) ++ W1 u) (wf u)) (hna : As.length = na) (hst : st0 = As.reverse ++ .ref b :: st) (hcs : cells + mc ≤ R.cells ∧ slots + ms ≤ R.slots) (hW : (st.map fun v => v.category).sum ≤ 8) (k : ∀ u : S, G u → WA p l e R s m args below meth c Q D A (cells + mc) (slots + ms) nL n1 (wf u) lv (.ref (ad u) :: st)) : WA p l e R s m args below meth c Q D A cells slots nL pc ws lv (st0) := by
  subst hn; subst hst
  intro H locs ls hP hD hS hl
  have hA := C.2.2.2.2.2.2.1
  have hK := C.2.2.2.2.2.1
  have hPc := bP.cut hP hC
  have hDc : bD A wc := bD.cut hD hnC hC
  have hFc : ∀ q, bA wc H.size q → A q := bA_free hD hS hA hC
  refine va_callr (va_runV (As := As) (rest := st) ⟨C.1, C.2.1, C.2.2.1, C.2.2.2.1, C.2.2.2.2.1⟩ (hM H.size) (cwV na C.2.2.2.2.1 hk.1 rfl hc0.1 hc0.2 hk.2 hR) ⟨PC.blind, va_recv hK hP hrc (flat_get hr9 hre), fun U hU hW => ⟨rfl, by rw [hU], by rw [hU]; exact hPc, va_K.moved hW.alike hK, bD.weaken hDc (fun _ _ => trivial)⟩⟩ rfl hna hl.1 rfl (lv_room hW) hdg hcs) hS (fun q _ h => hFc q h) hFc (fun u ra9 t H1 locs1 ht hvm hw hB hz1 hk1 hS1 => ?_)
  have hg := hw
  obtain ⟨rfl, hB⟩ := hB
  obtain ⟨hP1, hK1, hD1⟩ := hB
  rw [ht] at hP1
  obtain ⟨hP2, hD2⟩ := b_join hP hD hC hRr hnR hdj hk1 hFc hP1 hD1
  exact k u hg H1 locs1 ls (bP.cut hP2 (hF u)) (bD.cut hD2 hnF (hF u)) hS1 hl
/-- the place i holds one, or gets a new one -/
def frs (N : Nat) (π : Nat → Option Nat) (n : Nat) : Bool := (List.range N).all (fun j => decide (π j ≠ some n))
theorem frs_spec {N n j : Nat} {π : Nat → Option Nat} (h : frs N π n = true) (hj : j < N) : π j ≠ some n := of_decide_eq_true (List.all_eq_true.mp h j (List.mem_range.mpr hj))
def rowF (N : Nat) (z : FS) (i : Int32) : Option (Nat × FS) := grd (vi i N) (match z.2.1 i.toNatClampNeg with
  | some k => grd (decide (k < z.1)) (some (k, z))
  | none => grd (frs N z.2.1 z.1) (some (z.1, (z.1 + 1, upO z.2.1 i.toNatClampNeg (some z.1), sV z.2.2 z.1 zV))))
end WAF
