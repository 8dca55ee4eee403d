def f_X11_later (v : Ob) (v_friends : Ob) (v_coming : CS) (v_dusk : Ob) (v_dpicks : Ob) (v_dkeeps : Ob) (v_known : Ob) (v_fam : FS) (B7 : Nat) (p0 : Int32) (p1 : Int32) : Option (Int32 × CS × Ob × Ob × Ob × FS) := (f_X11_needWhat p1 (4 : Int32)).bind (fun q1 => (f_X11_needWithin p0 (0 : Int32) (100 : Int32)).bind (fun q3 => (f_X1_behind v_coming v_dusk v_dpicks v_dkeeps v_known v_fam (max v_fam.1 ((p0).toNatClampNeg + 1)) p0).bind (fun q5 => grd (decide (v_fam.1 ≤ q5.2.2.2.2.2.1 ∧ q5.2.2.2.2.2.1 = (max v_fam.1 ((p0).toNatClampNeg + 1)) ∧ (max v_fam.1 ((p0).toNatClampNeg + 1)) ≤ B7 ∧ 0 < v_fam.1)) ((if p1 = 0 then grd (decide (q5.1 < q5.2.2.2.2.2.1)) (some (((q5.2.2.2.2.2.2.2 q5.1).1 1), q5.2.1, q5.2.2.1, q5.2.2.2.1, q5.2.2.2.2.1, q5.2.2.2.2.2)) else (if p1 = 1 then grd (decide (q5.1 < q5.2.2.2.2.2.1)) ((f_X10_greatest (q5.2.2.2.2.2.2.2 q5.1)).bind (fun q12 => some (q12, q5.2.1, q5.2.2.1, q5.2.2.2.1, q5.2.2.2.2.1, q5.2.2.2.2.2))) else (if p1 = 2 then grd (decide (q5.1 < q5.2.2.2.2.2.1)) ((f_X10_alone (q5.2.2.2.2.2.2.2 q5.1)).bind (fun q16 => some (q16, q5.2.1, q5.2.2.1, q5.2.2.2.1, q5.2.2.2.2.1, q5.2.2.2.2.2))) else (if p1 = 3 then grd (decide (q5.1 < q5.2.2.2.2.2.1)) ((f_X3_inOneHouse v_friends (q5.2.2.2.2.2.2.2 q5.1)).bind (fun q20 => some (q20, q5.2.1, q5.2.2.1, q5.2.2.2.1, q5.2.2.2.2.1, q5.2.2.2.2.2))) else grd (decide (q5.1 < q5.2.2.2.2.2.1)) ((f_X10_isStairs (q5.2.2.2.2.2.2.2 q5.1)).bind (fun q23 => (if q23 = 0 then some ((0 : Int32), q5.2.1, q5.2.2.1, q5.2.2.2.1, q5.2.2.2.2.1, q5.2.2.2.2.2) else some ((1 : Int32), q5.2.1, q5.2.2.1, q5.2.2.2.1, q5.2.2.2.2.1, q5.2.2.2.2.2))))))))))))
set_option maxRecDepth 20000 in
theorem c_X11_later {l : Launch} {D : va_G} {dT : Nat → ClassId} {a : Nat → Nat} {a_friends : Nat → Nat} {a_coming : Nat → Nat} {a_dusk : Nat → Nat} {a_dpicks : Nat → Nat} {a_dkeeps : Nat → Nat} {a_known : Nat → Nat} {a_fam : Nat → Nat → Nat} {h_tape : Nat} {h_reader : Nat} {h_acts : Nat} {h_seen : Nat} {h_pairs : Nat} {h_trials : Nat} {h_imageNow : Nat} {h_imageActs : Nat} {h_imageSeen : Nat} {v : Ob} {v_friends : Ob} {v_coming : CS} {v_dusk : Ob} {v_dpicks : Ob} {v_dkeeps : Ob} {v_known : Ob} {v_fam : FS} {B7 : Nat} {p0 : Int32} {p1 : Int32} {res : Int32 × CS × Ob × Ob × Ob × FS} (hf : f_X11_later v v_friends v_coming v_dusk v_dpicks v_dkeeps v_known v_fam B7 p0 p1 = some res) : CMi l yX11_later cX11_later 4 (some .int) ({ frames := 7, cells := 8 * ((B7 - v_fam.1)), slots := 96 * ((B7 - v_fam.1)), locals := 153 } : Room) D dT [.ref (a 0), .int p0, .int p1] ([wH dT a h_tape h_reader (a_friends 0) (a_dusk 0) (a_fam 0 0) (a_coming 0) h_acts h_seen h_pairs h_trials h_imageNow h_imageActs h_imageSeen v, wF dT a_friends v_friends, wC dT a_coming (a_dusk 0) (a_fam 0 0) (a_known 0) (pim a_fam v_fam.2.1) v_coming, wD dT a_dusk (a_dpicks 0) (a_dkeeps 0) v_dusk, wR dT a_dpicks v_dpicks, wR dT a_dkeeps v_dkeeps, wK dT a_known v_known, wRw dT v_fam.1 a_fam v_fam.2.2]) (fun u : (Nat → Nat → Nat) => (∀ k, k < v_fam.1 → u k = a_fam k)) (fun u : (Nat → Nat → Nat) => [wH dT a h_tape h_reader (a_friends 0) (a_dusk 0) (u 0 0) (a_coming 0) h_acts h_seen h_pairs h_trials h_imageNow h_imageActs h_imageSeen v, wF dT a_friends v_friends, wC dT a_coming (a_dusk 0) (u 0 0) (a_known 0) (pim u res.2.2.2.2.2.2.1) res.2.1, wD dT a_dusk (a_dpicks 0) (a_dkeeps 0) res.2.2.1, wR dT a_dpicks res.2.2.2.1, wR dT a_dkeeps res.2.2.2.2.1, wK dT a_known v_known, wRw dT res.2.2.2.2.2.1 u res.2.2.2.2.2.2.2]) res.1 (8 * ((B7 - v_fam.1))) (96 * ((B7 - v_fam.1))) := by
  refine CMi.of (by decide) (Nat.le_of_ble_eq_true rfl) rfl ?_
  intro p e s m args below meth c A C
  unfold f_X11_later at hf
  have hm7 : v_fam.1 ≤ v_fam.1 := Nat.le_refl _
  have hb7 : v_fam.1 - v_fam.1 ≤ B7 - v_fam.1 := by omega
  have hg7 : ∀ k, k < v_fam.1 → a_fam k = a_fam k := fun _ _ => rfl
  refine wa_widen (k := (8 * ((v_fam.1 - v_fam.1)))) (n := (96 * ((v_fam.1 - v_fam.1)))) (Nat.zero_le _) (Nat.zero_le _) ?_
  refine wa_iload_n C 2 1 dX11_later_0 rfl rfl ?_
  refine wa_iconst (v := 4) C 2 dX11_later_1 rfl rfl ?_
  obtain ⟨q1, hq1, hf⟩ := bind_ex hf
  refine wa_callS0v (As := [.int p1, .int (4 : Int32)]) C 5 dX11_later_2 rfl ks_X11_273 (c_X11_needWhat hq1) ⟨rfl, rfl⟩ ⟨Nat.le_of_ble_eq_true rfl, Nat.le_of_ble_eq_true rfl⟩ rfl rfl ⟨by show (8 * ((v_fam.1 - v_fam.1))) ≤ 8 * ((B7 - v_fam.1)); omega, by show (96 * ((v_fam.1 - v_fam.1))) ≤ 96 * ((B7 - v_fam.1)); omega⟩ (Nat.le_of_ble_eq_true rfl) ?_
  refine wa_iload_n C 1 6 dX11_later_5 rfl rfl ?_
  refine wa_iconst (v := 0) C 7 dX11_later_6 rfl rfl ?_
  refine wa_bipush (v := 100) C 9 dX11_later_7 rfl rfl ?_
  obtain ⟨q3, hq3, hf⟩ := bind_ex hf
  refine wa_callS0v (As := [.int p0, .int (0 : Int32), .int (100 : Int32)]) C 12 dX11_later_9 rfl ks_X11_276 (c_X11_needWithin hq3) ⟨rfl, rfl⟩ ⟨Nat.le_of_ble_eq_true rfl, Nat.le_of_ble_eq_true rfl⟩ rfl rfl ⟨by show (8 * ((v_fam.1 - v_fam.1))) ≤ 8 * ((B7 - v_fam.1)); omega, by show (96 * ((v_fam.1 - v_fam.1))) ≤ 96 * ((B7 - v_fam.1)); omega⟩ (Nat.le_of_ble_eq_true rfl) ?_
  refine wa_aload_n C 0 13 dX11_later_12 rfl rfl ?_
  refine wa_get C 16 0 0 8 dX11_later_13 rfl iX11 q365 rfl (Nat.le_of_ble_eq_true rfl) rfl rfl rfl ?_
  refine wa_iload_n C 1 17 dX11_later_16 rfl rfl ?_
  obtain ⟨q5, hq5, hf⟩ := bind_ex hf
  obtain ⟨g6, hf⟩ := grd_ex hf
  replace g6 := of_decide_eq_true g6
  refine wa_callMr (b1 := 2) (q1 := 0) (ci := 1) (As := [.int p0]) C (fun (ru7 : (Nat → Nat → Nat)) => [wH dT a h_tape h_reader (a_friends 0) (a_dusk 0) (a_fam 0 0) (a_coming 0) h_acts h_seen h_pairs h_trials h_imageNow h_imageActs h_imageSeen v, wF dT a_friends v_friends, wC dT a_coming (a_dusk 0) (ru7 0 0) (a_known 0) (pim ru7 q5.2.2.2.2.2.2.1) q5.2.1, wD dT a_dusk (a_dpicks 0) (a_dkeeps 0) q5.2.2.1, wR dT a_dpicks q5.2.2.2.1, wR dT a_dkeeps q5.2.2.2.2.1, wK dT a_known v_known, wRw dT q5.2.2.2.2.2.1 ru7 q5.2.2.2.2.2.2.2]) 20 dX11_later_17 rfl kv_X11_252 (c_X1_behind hq5) ⟨rfl, rfl⟩ ⟨Nat.le_of_ble_eq_true rfl, Nat.le_of_ble_eq_true rfl⟩ rfl rfl rfl [2, 3, 4, 5, 6, 7] [0, 1] [0, 1, 2, 3, 4, 5, 6, 7] rfl rfl rfl rfl (by decide) rfl (fun _ => rfl) rfl rfl ⟨by show (8 * ((v_fam.1 - v_fam.1))) + 8 * (((max v_fam.1 ((p0).toNatClampNeg + 1)) - v_fam.1)) ≤ 8 * ((B7 - v_fam.1)); omega, by show (96 * ((v_fam.1 - v_fam.1))) + 96 * (((max v_fam.1 ((p0).toNatClampNeg + 1)) - v_fam.1)) ≤ 96 * ((B7 - v_fam.1)); omega⟩ (Nat.le_of_ble_eq_true rfl) (fun ru7 hu => ?_)
  refine wa_ws (ws' := [wH dT a h_tape h_reader (a_friends 0) (a_dusk 0) (ru7 0 0) (a_coming 0) h_acts h_seen h_pairs h_trials h_imageNow h_imageActs h_imageSeen v, wF dT a_friends v_friends, wC dT a_coming (a_dusk 0) (ru7 0 0) (a_known 0) (pim ru7 q5.2.2.2.2.2.2.1) q5.2.1, wD dT a_dusk (a_dpicks 0) (a_dkeeps 0) q5.2.2.1, wR dT a_dpicks q5.2.2.2.1, wR dT a_dkeeps q5.2.2.2.2.1, wK dT a_known v_known, wRw dT q5.2.2.2.2.2.1 ru7 q5.2.2.2.2.2.2.2]) (by rw [hu 0 (by omega)]) ?_
  refine wa_widen (k := (8 * ((q5.2.2.2.2.2.1 - v_fam.1)))) (n := (96 * ((q5.2.2.2.2.2.1 - v_fam.1)))) (by omega) (by omega) ?_
  replace hg7 : ∀ k, k < v_fam.1 → ru7 k = a_fam k := fun k hk => (hu k (by omega)).trans (hg7 k hk)
  replace hm7 : v_fam.1 ≤ q5.2.2.2.2.2.1 := by omega
  replace hb7 : q5.2.2.2.2.2.1 - v_fam.1 ≤ B7 - v_fam.1 := by omega
  refine wa_astore_n (lv' := [(0, .ref (a 0)), (1, .int p0), (2, .int p1), (3, .ref (ru7 q5.1 0))]) C [1, 2, 3, 0] 21 dX11_later_20 rfl (Nat.le_of_ble_eq_true rfl) rfl ?_
  refine wa_iload_n C 2 22 dX11_later_21 rfl rfl ?_
  by_cases c8 : p1 = 0
  · replace hf := ite_t hf c8
    refine wa_ts C 0 (30) 52 dX11_later_22 c8 (by decide) (by decide) rfl rfl ?_
    refine wa_aload_n C 3 53 dX11_later_52 rfl rfl ?_
    obtain ⟨g9, hf⟩ := grd_ex hf
    refine wa_openF 7 q5.1 (of_decide_eq_true g9) List.not_mem_nil rfl ?_
    refine wa_get C 56 8 0 1 dX11_later_53 rfl iX10 q60 rfl (Nat.le_of_ble_eq_true rfl) rfl rfl rfl ?_
    refine wa_closeR (ws := [wH dT a h_tape h_reader (a_friends 0) (a_dusk 0) (ru7 0 0) (a_coming 0) h_acts h_seen h_pairs h_trials h_imageNow h_imageActs h_imageSeen v, wF dT a_friends v_friends, wC dT a_coming (a_dusk 0) (ru7 0 0) (a_known 0) (pim ru7 q5.2.2.2.2.2.2.1) q5.2.1, wD dT a_dusk (a_dpicks 0) (a_dkeeps 0) q5.2.2.1, wR dT a_dpicks q5.2.2.2.1, wR dT a_dkeeps q5.2.2.2.2.1, wK dT a_known v_known, wRm dT q5.2.2.2.2.2.1 [q5.1] ru7 q5.2.2.2.2.2.2.2]) (ws' := [wH dT a h_tape h_reader (a_friends 0) (a_dusk 0) (ru7 0 0) (a_coming 0) h_acts h_seen h_pairs h_trials h_imageNow h_imageActs h_imageSeen v, wF dT a_friends v_friends, wC dT a_coming (a_dusk 0) (ru7 0 0) (a_known 0) (pim ru7 q5.2.2.2.2.2.2.1) q5.2.1, wD dT a_dusk (a_dpicks 0) (a_dkeeps 0) q5.2.2.1, wR dT a_dpicks q5.2.2.2.1, wR dT a_dkeeps q5.2.2.2.2.1, wK dT a_known v_known, wRw dT q5.2.2.2.2.2.1 ru7 q5.2.2.2.2.2.2.2]) 7 q5.1 (of_decide_eq_true g9) List.not_mem_nil rfl rfl ?_
    cases hf
    exact wa_irm C (ru7) dX11_later_56 hg7 rfl rfl (by show (8 * ((q5.2.2.2.2.2.1 - v_fam.1))) ≤ 8 * ((B7 - v_fam.1)); omega) (by show (96 * ((q5.2.2.2.2.2.1 - v_fam.1))) ≤ 96 * ((B7 - v_fam.1)); omega)
  · replace hf := ite_f hf c8
    by_cases c10 : p1 = 1
    · replace hf := ite_t hf c10
      refine wa_ts C 1 (35) 57 dX11_later_22 c10 (by decide) (by decide) rfl rfl ?_
      refine wa_aload_n C 3 58 dX11_later_57 rfl rfl ?_
      obtain ⟨g11, hf⟩ := grd_ex hf
      replace g11 := of_decide_eq_true g11
      refine wa_openF 7 q5.1 g11 List.not_mem_nil rfl ?_
      obtain ⟨q12, hq12, hf⟩ := bind_ex hf
      refine wa_callVi (b1 := 8) (q1 := 0) (ci := 10) (ws' := [wH dT a h_tape h_reader (a_friends 0) (a_dusk 0) (ru7 0 0) (a_coming 0) h_acts h_seen h_pairs h_trials h_imageNow h_imageActs h_imageSeen v, wF dT a_friends v_friends, wC dT a_coming (a_dusk 0) (ru7 0 0) (a_known 0) (pim ru7 q5.2.2.2.2.2.2.1) q5.2.1, wD dT a_dusk (a_dpicks 0) (a_dkeeps 0) q5.2.2.1, wR dT a_dpicks q5.2.2.2.1, wR dT a_dkeeps q5.2.2.2.2.1, wK dT a_known v_known, wRm dT q5.2.2.2.2.2.1 [q5.1] ru7 q5.2.2.2.2.2.2.2, wV dT (ru7 q5.1) (q5.2.2.2.2.2.2.2 q5.1)]) (As := []) C 61 dX11_later_58 rfl kv_X11_164 (c_X10_greatest hq12) ⟨rfl, rfl⟩ ⟨Nat.le_of_ble_eq_true rfl, Nat.le_of_ble_eq_true rfl⟩ rfl rfl rfl [8] [0, 1, 2, 3, 4, 5, 6, 7] [0, 1, 2, 3, 4, 5, 6, 7, 8] rfl rfl rfl rfl (by decide) rfl rfl rfl rfl ⟨by show (8 * ((q5.2.2.2.2.2.1 - v_fam.1))) ≤ 8 * ((B7 - v_fam.1)); omega, by show (96 * ((q5.2.2.2.2.2.1 - v_fam.1))) ≤ 96 * ((B7 - v_fam.1)); omega⟩ (Nat.le_of_ble_eq_true rfl) ?_
      refine wa_closeR (ws := [wH dT a h_tape h_reader (a_friends 0) (a_dusk 0) (ru7 0 0) (a_coming 0) h_acts h_seen h_pairs h_trials h_imageNow h_imageActs h_imageSeen v, wF dT a_friends v_friends, wC dT a_coming (a_dusk 0) (ru7 0 0) (a_known 0) (pim ru7 q5.2.2.2.2.2.2.1) q5.2.1, wD dT a_dusk (a_dpicks 0) (a_dkeeps 0) q5.2.2.1, wR dT a_dpicks q5.2.2.2.1, wR dT a_dkeeps q5.2.2.2.2.1, wK dT a_known v_known, wRm dT q5.2.2.2.2.2.1 [q5.1] ru7 q5.2.2.2.2.2.2.2]) (ws' := [wH dT a h_tape h_reader (a_friends 0) (a_dusk 0) (ru7 0 0) (a_coming 0) h_acts h_seen h_pairs h_trials h_imageNow h_imageActs h_imageSeen v, wF dT a_friends v_friends, wC dT a_coming (a_dusk 0) (ru7 0 0) (a_known 0) (pim ru7 q5.2.2.2.2.2.2.1) q5.2.1, wD dT a_dusk (a_dpicks 0) (a_dkeeps 0) q5.2.2.1, wR dT a_dpicks q5.2.2.2.1, wR dT a_dkeeps q5.2.2.2.2.1, wK dT a_known v_known, wRm dT q5.2.2.2.2.2.1 [] ru7 q5.2.2.2.2.2.2.2]) 7 q5.1 g11 List.not_mem_nil rfl rfl ?_
      refine wa_ws (ws' := [wH dT a h_tape h_reader (a_friends 0) (a_dusk 0) (ru7 0 0) (a_coming 0) h_acts h_seen h_pairs h_trials h_imageNow h_imageActs h_imageSeen v, wF dT a_friends v_friends, wC dT a_coming (a_dusk 0) (ru7 0 0) (a_known 0) (pim ru7 q5.2.2.2.2.2.2.1) q5.2.1, wD dT a_dusk (a_dpicks 0) (a_dkeeps 0) q5.2.2.1, wR dT a_dpicks q5.2.2.2.1, wR dT a_dkeeps q5.2.2.2.2.1, wK dT a_known v_known, wRw dT q5.2.2.2.2.2.1 ru7 q5.2.2.2.2.2.2.2]) rfl ?_
      cases hf
      exact wa_irm C (ru7) dX11_later_61 hg7 rfl rfl (by show (8 * ((q5.2.2.2.2.2.1 - v_fam.1))) ≤ 8 * ((B7 - v_fam.1)); omega) (by show (96 * ((q5.2.2.2.2.2.1 - v_fam.1))) ≤ 96 * ((B7 - v_fam.1)); omega)
    · replace hf := ite_f hf c10
      by_cases c14 : p1 = 2
      · replace hf := ite_t hf c14
        refine wa_ts C 2 (40) 62 dX11_later_22 c14 (by decide) (by decide) rfl rfl ?_
        refine wa_aload_n C 3 63 dX11_later_62 rfl rfl ?_
        obtain ⟨g15, hf⟩ := grd_ex hf
        replace g15 := of_decide_eq_true g15
        refine wa_openF 7 q5.1 g15 List.not_mem_nil rfl ?_
        obtain ⟨q16, hq16, hf⟩ := bind_ex hf
        refine wa_callVi (b1 := 8) (q1 := 0) (ci := 10) (ws' := [wH dT a h_tape h_reader (a_friends 0) (a_dusk 0) (ru7 0 0) (a_coming 0) h_acts h_seen h_pairs h_trials h_imageNow h_imageActs h_imageSeen v, wF dT a_friends v_friends, wC dT a_coming (a_dusk 0) (ru7 0 0) (a_known 0) (pim ru7 q5.2.2.2.2.2.2.1) q5.2.1, wD dT a_dusk (a_dpicks 0) (a_dkeeps 0) q5.2.2.1, wR dT a_dpicks q5.2.2.2.1, wR dT a_dkeeps q5.2.2.2.2.1, wK dT a_known v_known, wRm dT q5.2.2.2.2.2.1 [q5.1] ru7 q5.2.2.2.2.2.2.2, wV dT (ru7 q5.1) (q5.2.2.2.2.2.2.2 q5.1)]) (As := []) C 66 dX11_later_63 rfl kv_X11_167 (c_X10_alone hq16) ⟨rfl, rfl⟩ ⟨Nat.le_of_ble_eq_true rfl, Nat.le_of_ble_eq_true rfl⟩ rfl rfl rfl [8] [0, 1, 2, 3, 4, 5, 6, 7] [0, 1, 2, 3, 4, 5, 6, 7, 8] rfl rfl rfl rfl (by decide) rfl rfl rfl rfl ⟨by show (8 * ((q5.2.2.2.2.2.1 - v_fam.1))) ≤ 8 * ((B7 - v_fam.1)); omega, by show (96 * ((q5.2.2.2.2.2.1 - v_fam.1))) ≤ 96 * ((B7 - v_fam.1)); omega⟩ (Nat.le_of_ble_eq_true rfl) ?_
        refine wa_closeR (ws := [wH dT a h_tape h_reader (a_friends 0) (a_dusk 0) (ru7 0 0) (a_coming 0) h_acts h_seen h_pairs h_trials h_imageNow h_imageActs h_imageSeen v, wF dT a_friends v_friends, wC dT a_coming (a_dusk 0) (ru7 0 0) (a_known 0) (pim ru7 q5.2.2.2.2.2.2.1) q5.2.1, wD dT a_dusk (a_dpicks 0) (a_dkeeps 0) q5.2.2.1, wR dT a_dpicks q5.2.2.2.1, wR dT a_dkeeps q5.2.2.2.2.1, wK dT a_known v_known, wRm dT q5.2.2.2.2.2.1 [q5.1] ru7 q5.2.2.2.2.2.2.2]) (ws' := [wH dT a h_tape h_reader (a_friends 0) (a_dusk 0) (ru7 0 0) (a_coming 0) h_acts h_seen h_pairs h_trials h_imageNow h_imageActs h_imageSeen v, wF dT a_friends v_friends, wC dT a_coming (a_dusk 0) (ru7 0 0) (a_known 0) (pim ru7 q5.2.2.2.2.2.2.1) q5.2.1, wD dT a_dusk (a_dpicks 0) (a_dkeeps 0) q5.2.2.1, wR dT a_dpicks q5.2.2.2.1, wR dT a_dkeeps q5.2.2.2.2.1, wK dT a_known v_known, wRm dT q5.2.2.2.2.2.1 [] ru7 q5.2.2.2.2.2.2.2]) 7 q5.1 g15 List.not_mem_nil rfl rfl ?_
        refine wa_ws (ws' := [wH dT a h_tape h_reader (a_friends 0) (a_dusk 0) (ru7 0 0) (a_coming 0) h_acts h_seen h_pairs h_trials h_imageNow h_imageActs h_imageSeen v, wF dT a_friends v_friends, wC dT a_coming (a_dusk 0) (ru7 0 0) (a_known 0) (pim ru7 q5.2.2.2.2.2.2.1) q5.2.1, wD dT a_dusk (a_dpicks 0) (a_dkeeps 0) q5.2.2.1, wR dT a_dpicks q5.2.2.2.1, wR dT a_dkeeps q5.2.2.2.2.1, wK dT a_known v_known, wRw dT q5.2.2.2.2.2.1 ru7 q5.2.2.2.2.2.2.2]) rfl ?_
        cases hf
        exact wa_irm C (ru7) dX11_later_66 hg7 rfl rfl (by show (8 * ((q5.2.2.2.2.2.1 - v_fam.1))) ≤ 8 * ((B7 - v_fam.1)); omega) (by show (96 * ((q5.2.2.2.2.2.1 - v_fam.1))) ≤ 96 * ((B7 - v_fam.1)); omega)
      · replace hf := ite_f hf c14
        by_cases c18 : p1 = 3
        · replace hf := ite_t hf c18
          refine wa_ts C 3 (45) 67 dX11_later_22 c18 (by decide) (by decide) rfl rfl ?_
          refine wa_aload_n C 0 68 dX11_later_67 rfl rfl ?_
          refine wa_get C 71 0 0 5 dX11_later_68 rfl iX11 q362 rfl (Nat.le_of_ble_eq_true rfl) rfl rfl rfl ?_
          refine wa_aload_n C 3 72 dX11_later_71 rfl rfl ?_
          obtain ⟨g19, hf⟩ := grd_ex hf
          replace g19 := of_decide_eq_true g19
          refine wa_openF 7 q5.1 g19 List.not_mem_nil rfl ?_
          obtain ⟨q20, hq20, hf⟩ := bind_ex hf
          refine wa_callVi (b1 := 1) (q1 := 0) (ci := 3) (ws' := [wH dT a h_tape h_reader (a_friends 0) (a_dusk 0) (ru7 0 0) (a_coming 0) h_acts h_seen h_pairs h_trials h_imageNow h_imageActs h_imageSeen v, wF dT a_friends v_friends, wC dT a_coming (a_dusk 0) (ru7 0 0) (a_known 0) (pim ru7 q5.2.2.2.2.2.2.1) q5.2.1, wD dT a_dusk (a_dpicks 0) (a_dkeeps 0) q5.2.2.1, wR dT a_dpicks q5.2.2.2.1, wR dT a_dkeeps q5.2.2.2.2.1, wK dT a_known v_known, wRm dT q5.2.2.2.2.2.1 [q5.1] ru7 q5.2.2.2.2.2.2.2, wV dT (ru7 q5.1) (q5.2.2.2.2.2.2.2 q5.1)]) (As := [.ref (ru7 q5.1 0)]) C 75 dX11_later_72 rfl kv_X11_180 (c_X3_inOneHouse hq20) ⟨rfl, rfl⟩ ⟨Nat.le_of_ble_eq_true rfl, Nat.le_of_ble_eq_true rfl⟩ rfl rfl rfl [1, 8] [0, 2, 3, 4, 5, 6, 7] [0, 7, 1, 2, 3, 4, 5, 6, 8] rfl rfl rfl rfl (by decide) rfl rfl rfl rfl ⟨by show (8 * ((q5.2.2.2.2.2.1 - v_fam.1))) ≤ 8 * ((B7 - v_fam.1)); omega, by show (96 * ((q5.2.2.2.2.2.1 - v_fam.1))) ≤ 96 * ((B7 - v_fam.1)); omega⟩ (Nat.le_of_ble_eq_true rfl) ?_
          refine wa_closeR (ws := [wH dT a h_tape h_reader (a_friends 0) (a_dusk 0) (ru7 0 0) (a_coming 0) h_acts h_seen h_pairs h_trials h_imageNow h_imageActs h_imageSeen v, wF dT a_friends v_friends, wC dT a_coming (a_dusk 0) (ru7 0 0) (a_known 0) (pim ru7 q5.2.2.2.2.2.2.1) q5.2.1, wD dT a_dusk (a_dpicks 0) (a_dkeeps 0) q5.2.2.1, wR dT a_dpicks q5.2.2.2.1, wR dT a_dkeeps q5.2.2.2.2.1, wK dT a_known v_known, wRm dT q5.2.2.2.2.2.1 [q5.1] ru7 q5.2.2.2.2.2.2.2]) (ws' := [wH dT a h_tape h_reader (a_friends 0) (a_dusk 0) (ru7 0 0) (a_coming 0) h_acts h_seen h_pairs h_trials h_imageNow h_imageActs h_imageSeen v, wF dT a_friends v_friends, wC dT a_coming (a_dusk 0) (ru7 0 0) (a_known 0) (pim ru7 q5.2.2.2.2.2.2.1) q5.2.1, wD dT a_dusk (a_dpicks 0) (a_dkeeps 0) q5.2.2.1, wR dT a_dpicks q5.2.2.2.1, wR dT a_dkeeps q5.2.2.2.2.1, wK dT a_known v_known, wRm dT q5.2.2.2.2.2.1 [] ru7 q5.2.2.2.2.2.2.2]) 7 q5.1 g19 List.not_mem_nil rfl rfl ?_
          refine wa_ws (ws' := [wH dT a h_tape h_reader (a_friends 0) (a_dusk 0) (ru7 0 0) (a_coming 0) h_acts h_seen h_pairs h_trials h_imageNow h_imageActs h_imageSeen v, wF dT a_friends v_friends, wC dT a_coming (a_dusk 0) (ru7 0 0) (a_known 0) (pim ru7 q5.2.2.2.2.2.2.1) q5.2.1, wD dT a_dusk (a_dpicks 0) (a_dkeeps 0) q5.2.2.1, wR dT a_dpicks q5.2.2.2.1, wR dT a_dkeeps q5.2.2.2.2.1, wK dT a_known v_known, wRw dT q5.2.2.2.2.2.1 ru7 q5.2.2.2.2.2.2.2]) rfl ?_
          cases hf
          exact wa_irm C (ru7) dX11_later_75 hg7 rfl rfl (by show (8 * ((q5.2.2.2.2.2.1 - v_fam.1))) ≤ 8 * ((B7 - v_fam.1)); omega) (by show (96 * ((q5.2.2.2.2.2.1 - v_fam.1))) ≤ 96 * ((B7 - v_fam.1)); omega)
        · replace hf := ite_f hf c18
          refine wa_tsd C 76 dX11_later_22 (ts_out (0) 4 (nts_s (nts_s (nts_s (nts_s nts_0 rfl c8) rfl c10) rfl c14) rfl c18)) rfl ?_
          refine wa_aload_n C 3 77 dX11_later_76 rfl rfl ?_
          obtain ⟨g22, hf⟩ := grd_ex hf
          replace g22 := of_decide_eq_true g22
          refine wa_openF 7 q5.1 g22 List.not_mem_nil rfl ?_
          obtain ⟨q23, hq23, hf⟩ := bind_ex hf
          refine wa_callVi (b1 := 8) (q1 := 0) (ci := 10) (ws' := [wH dT a h_tape h_reader (a_friends 0) (a_dusk 0) (ru7 0 0) (a_coming 0) h_acts h_seen h_pairs h_trials h_imageNow h_imageActs h_imageSeen v, wF dT a_friends v_friends, wC dT a_coming (a_dusk 0) (ru7 0 0) (a_known 0) (pim ru7 q5.2.2.2.2.2.2.1) q5.2.1, wD dT a_dusk (a_dpicks 0) (a_dkeeps 0) q5.2.2.1, wR dT a_dpicks q5.2.2.2.1, wR dT a_dkeeps q5.2.2.2.2.1, wK dT a_known v_known, wRm dT q5.2.2.2.2.2.1 [q5.1] ru7 q5.2.2.2.2.2.2.2, wV dT (ru7 q5.1) (q5.2.2.2.2.2.2.2 q5.1)]) (As := []) C 80 dX11_later_77 rfl kv_X11_170 (c_X10_isStairs hq23) ⟨rfl, rfl⟩ ⟨Nat.le_of_ble_eq_true rfl, Nat.le_of_ble_eq_true rfl⟩ rfl rfl rfl [8] [0, 1, 2, 3, 4, 5, 6, 7] [0, 1, 2, 3, 4, 5, 6, 7, 8] rfl rfl rfl rfl (by decide) rfl rfl rfl rfl ⟨by show (8 * ((q5.2.2.2.2.2.1 - v_fam.1))) ≤ 8 * ((B7 - v_fam.1)); omega, by show (96 * ((q5.2.2.2.2.2.1 - v_fam.1))) ≤ 96 * ((B7 - v_fam.1)); omega⟩ (Nat.le_of_ble_eq_true rfl) ?_
          refine wa_closeR (ws := [wH dT a h_tape h_reader (a_friends 0) (a_dusk 0) (ru7 0 0) (a_coming 0) h_acts h_seen h_pairs h_trials h_imageNow h_imageActs h_imageSeen v, wF dT a_friends v_friends, wC dT a_coming (a_dusk 0) (ru7 0 0) (a_known 0) (pim ru7 q5.2.2.2.2.2.2.1) q5.2.1, wD dT a_dusk (a_dpicks 0) (a_dkeeps 0) q5.2.2.1, wR dT a_dpicks q5.2.2.2.1, wR dT a_dkeeps q5.2.2.2.2.1, wK dT a_known v_known, wRm dT q5.2.2.2.2.2.1 [q5.1] ru7 q5.2.2.2.2.2.2.2]) (ws' := [wH dT a h_tape h_reader (a_friends 0) (a_dusk 0) (ru7 0 0) (a_coming 0) h_acts h_seen h_pairs h_trials h_imageNow h_imageActs h_imageSeen v, wF dT a_friends v_friends, wC dT a_coming (a_dusk 0) (ru7 0 0) (a_known 0) (pim ru7 q5.2.2.2.2.2.2.1) q5.2.1, wD dT a_dusk (a_dpicks 0) (a_dkeeps 0) q5.2.2.1, wR dT a_dpicks q5.2.2.2.1, wR dT a_dkeeps q5.2.2.2.2.1, wK dT a_known v_known, wRm dT q5.2.2.2.2.2.1 [] ru7 q5.2.2.2.2.2.2.2]) 7 q5.1 g22 List.not_mem_nil rfl rfl ?_
          refine wa_ws (ws' := [wH dT a h_tape h_reader (a_friends 0) (a_dusk 0) (ru7 0 0) (a_coming 0) h_acts h_seen h_pairs h_trials h_imageNow h_imageActs h_imageSeen v, wF dT a_friends v_friends, wC dT a_coming (a_dusk 0) (ru7 0 0) (a_known 0) (pim ru7 q5.2.2.2.2.2.2.1) q5.2.1, wD dT a_dusk (a_dpicks 0) (a_dkeeps 0) q5.2.2.1, wR dT a_dpicks q5.2.2.2.1, wR dT a_dkeeps q5.2.2.2.2.1, wK dT a_known v_known, wRw dT q5.2.2.2.2.2.1 ru7 q5.2.2.2.2.2.2.2]) rfl ?_
          refine wa_if_eq C 87 83 dX11_later_80 rfl rfl (fun c25 => ?_) (fun c25 => ?_)
          · replace hf := ite_t hf c25
            refine wa_iconst (v := 0) C 88 dX11_later_87 rfl rfl ?_
            cases hf
            exact wa_irm C (ru7) dX11_later_88 hg7 rfl rfl (by show (8 * ((q5.2.2.2.2.2.1 - v_fam.1))) ≤ 8 * ((B7 - v_fam.1)); omega) (by show (96 * ((q5.2.2.2.2.2.1 - v_fam.1))) ≤ 96 * ((B7 - v_fam.1)); omega)
          · replace hf := ite_f hf c25
            refine wa_iconst (v := 1) C 84 dX11_later_83 rfl rfl ?_
            refine wa_goto C 88 dX11_later_84 rfl ?_
            cases hf
            exact wa_irm C (ru7) dX11_later_88 hg7 rfl rfl (by show (8 * ((q5.2.2.2.2.2.1 - v_fam.1))) ≤ 8 * ((B7 - v_fam.1)); omega) (by show (96 * ((q5.2.2.2.2.2.1 - v_fam.1))) ≤ 96 * ((B7 - v_fam.1)); omega)
theorem kv_X11_283 : KV RX11 283 yX1_firstWith cX1_firstWith 5 (some .int) 3 := KV.mk q1147 q1148 q1149 q7 q1150 ⟨by decide, by decide, by decide +kernel⟩
def f_X11_meet_J39 (B6 : Nat) (z0 : Ob) (z5 : Ob) (t0 : Int32) (t1 : Int32) (t2 : Int32) (z1 : CS) (z2 : Ob) (z3 : Ob) (z4 : Ob) (z6 : FS) : Option (Int32 × CS × Ob × Ob × Ob × FS) := (f_X1_firstWith z1 z2 z3 z4 z5 z6 B6 t2 t1 t0).bind (fun q9 => grd (decide (z6.1 ≤ q9.2.2.2.2.2.1 ∧ q9.2.2.2.2.2.1 ≤ B6 ∧ 0 < z6.1)) (some (q9.1, q9.2.1, q9.2.2.1, q9.2.2.2.1, q9.2.2.2.2.1, q9.2.2.2.2.2)))
def f_X11_meet (v : Ob) (v_coming : CS) (v_dusk : Ob) (v_dpicks : Ob) (v_dkeeps : Ob) (v_known : Ob) (v_fam : FS) (B6 : Nat) (p0 : Int32) (p1 : Int32) (p2 : Int32) : Option (Int32 × CS × Ob × Ob × Ob × FS) := (f_X11_needPerson v v_fam p0).bind (fun q1 => (f_X11_needPerson v v_fam p1).bind (fun q3 => (f_X11_needWhat p2 (1 : Int32)).bind (fun q5 => (if p0 = p1 then some ((-1 : Int32), v_coming, v_dusk, v_dpicks, v_dkeeps, v_fam) else (if p2 = 0 then f_X11_meet_J39 B6 v v_known (1 : Int32) p1 p0 v_coming v_dusk v_dpicks v_dkeeps v_fam else f_X11_meet_J39 B6 v v_known (0 : Int32) p1 p0 v_coming v_dusk v_dpicks v_dkeeps v_fam)))))
set_option maxRecDepth 20000 in
theorem w_X11_meet_J39 {p : Program} {l : Launch} {e : Env} {s : State} {m : MethodId} {args : Array Value} {below : List Frame} {meth : Method} {c : Code} {D : va_G} {A : Nat → Prop} {dT : Nat → ClassId} {a : Nat → Nat} {a_coming : Nat → Nat} {a_dusk : Nat → Nat} {a_dpicks : Nat → Nat} {a_dkeeps : Nat → Nat} {a_known : Nat → Nat} {h_tape : Nat} {h_reader : Nat} {h_friends : Nat} {h_acts : Nat} {h_seen : Nat} {h_pairs : Nat} {h_trials : Nat} {h_imageNow : Nat} {h_imageActs : Nat} {h_imageSeen : Nat} {m6 B6 : Nat} {r6 : Nat → Nat → Nat} {res : Int32 × CS × Ob × Ob × Ob × FS} {z0 : Ob} {z5 : Ob} (C : Cx p s m args meth c cX11_meet 4 RX11 (some .int) D A dT) : ∀ (t0 : Int32) (t1 : Int32) (t2 : Int32) (z1 : CS) (z2 : Ob) (z3 : Ob) (z4 : Ob) (z6 : FS) (rr6 : Nat → Nat → Nat), m6 ≤ z6.1 → z6.1 - m6 ≤ B6 - m6 → (∀ k, k < m6 → rr6 k = r6 k) → f_X11_meet_J39 B6 z0 z5 t0 t1 t2 z1 z2 z3 z4 z6 = some res → WA p l e ({ frames := 8, cells := 8 * ((B6 - m6)), slots := 96 * ((B6 - m6)), locals := 177 } : Room) s m args below meth c (MQ below (va_Qi (fun r9 u => r9 = res.1 ∧ (fun u : (Nat → Nat → Nat) => (∀ k, k < m6 → u k = r6 k)) u) (fun u t => WB D dT A ((fun u : (Nat → Nat → Nat) => [wH dT a h_tape h_reader h_friends (a_dusk 0) (u 0 0) (a_coming 0) h_acts h_seen h_pairs h_trials h_imageNow h_imageActs h_imageSeen z0, wC dT a_coming (a_dusk 0) (u 0 0) (a_known 0) (pim u res.2.2.2.2.2.2.1) res.2.1, wD dT a_dusk (a_dpicks 0) (a_dkeeps 0) res.2.2.1, wR dT a_dpicks res.2.2.2.1, wR dT a_dkeeps res.2.2.2.2.1, wK dT a_known z5, wRw dT res.2.2.2.2.2.1 u res.2.2.2.2.2.2.2]) u) t) A) args s (8 * ((B6 - m6))) (96 * ((B6 - m6))) A) D A (8 * ((z6.1 - m6))) (96 * ((z6.1 - m6))) 4 39 ([wH dT a h_tape h_reader h_friends (a_dusk 0) (rr6 0 0) (a_coming 0) h_acts h_seen h_pairs h_trials h_imageNow h_imageActs h_imageSeen z0, wC dT a_coming (a_dusk 0) (rr6 0 0) (a_known 0) (pim rr6 z6.2.1) z1, wD dT a_dusk (a_dpicks 0) (a_dkeeps 0) z2, wR dT a_dpicks z3, wR dT a_dkeeps z4, wK dT a_known z5, wRw dT z6.1 rr6 z6.2.2]) [] [.int t0, .int t1, .int t2, .ref (a_coming 0)] := by
  intro t0 t1 t2 z1 z2 z3 z4 z6 rr6 hm6 hb6 hg6 hf
  unfold f_X11_meet_J39 at hf
  obtain ⟨q9, hq9, hf⟩ := bind_ex hf
  obtain ⟨g10, hf⟩ := grd_ex hf
  replace g10 := of_decide_eq_true g10
  refine wa_callMi (b1 := 1) (q1 := 0) (ci := 1) (As := [.int t2, .int t1, .int t0]) C (fun (ru11 : (Nat → Nat → Nat)) => [wH dT a h_tape h_reader h_friends (a_dusk 0) (rr6 0 0) (a_coming 0) h_acts h_seen h_pairs h_trials h_imageNow h_imageActs h_imageSeen z0, wC dT a_coming (a_dusk 0) (ru11 0 0) (a_known 0) (pim ru11 q9.2.2.2.2.2.2.1) q9.2.1, wD dT a_dusk (a_dpicks 0) (a_dkeeps 0) q9.2.2.1, wR dT a_dpicks q9.2.2.2.1, wR dT a_dkeeps q9.2.2.2.2.1, wK dT a_known z5, wRw dT q9.2.2.2.2.2.1 ru11 q9.2.2.2.2.2.2.2]) 42 dX11_meet_39 rfl kv_X11_283 (c_X1_firstWith hq9) ⟨rfl, rfl⟩ ⟨Nat.le_of_ble_eq_true rfl, Nat.le_of_ble_eq_true rfl⟩ rfl rfl rfl [1, 2, 3, 4, 5, 6] [0] [0, 1, 2, 3, 4, 5, 6] rfl rfl rfl rfl (by decide) rfl (fun _ => rfl) rfl rfl ⟨by show (8 * ((z6.1 - m6))) + 8 * ((B6 - z6.1)) ≤ 8 * ((B6 - m6)); omega, by show (96 * ((z6.1 - m6))) + 96 * ((B6 - z6.1)) ≤ 96 * ((B6 - m6)); omega⟩ (Nat.le_of_ble_eq_true rfl) (fun ru11 hu => ?_)
  refine wa_ws (ws' := [wH dT a h_tape h_reader h_friends (a_dusk 0) (ru11 0 0) (a_coming 0) h_acts h_seen h_pairs h_trials h_imageNow h_imageActs h_imageSeen z0, wC dT a_coming (a_dusk 0) (ru11 0 0) (a_known 0) (pim ru11 q9.2.2.2.2.2.2.1) q9.2.1, wD dT a_dusk (a_dpicks 0) (a_dkeeps 0) q9.2.2.1, wR dT a_dpicks q9.2.2.2.1, wR dT a_dkeeps q9.2.2.2.2.1, wK dT a_known z5, wRw dT q9.2.2.2.2.2.1 ru11 q9.2.2.2.2.2.2.2]) (by rw [hu 0 (by omega)]) ?_
  refine wa_widen (k := (8 * ((B6 - m6)))) (n := (96 * ((B6 - m6)))) (by omega) (by omega) ?_
  replace hg6 : ∀ k, k < m6 → ru11 k = r6 k := fun k hk => (hu k (by omega)).trans (hg6 k hk)
  replace hm6 : m6 ≤ q9.2.2.2.2.2.1 := by omega
  replace hb6 : q9.2.2.2.2.2.1 - m6 ≤ B6 - m6 := by omega
  cases hf
  exact wa_irm C (ru11) dX11_meet_42 hg6 rfl rfl (by show (8 * ((B6 - m6))) ≤ 8 * ((B6 - m6)); omega) (by show (96 * ((B6 - m6))) ≤ 96 * ((B6 - m6)); omega)
set_option maxRecDepth 20000 in
theorem c_X11_meet {l : Launch} {D : va_G} {dT : Nat → ClassId} {a : Nat → Nat} {a_coming : Nat → Nat} {a_dusk : Nat → Nat} {a_dpicks : Nat → Nat} {a_dkeeps : Nat → Nat} {a_known : Nat → Nat} {a_fam : Nat → Nat → Nat} {h_tape : Nat} {h_reader : Nat} {h_friends : Nat} {h_acts : Nat} {h_seen : Nat} {h_pairs : Nat} {h_trials : Nat} {h_imageNow : Nat} {h_imageActs : Nat} {h_imageSeen : Nat} {v : Ob} {v_coming : CS} {v_dusk : Ob} {v_dpicks : Ob} {v_dkeeps : Ob} {v_known : Ob} {v_fam : FS} {B6 : Nat} {p0 : Int32} {p1 : Int32} {p2 : Int32} {res : Int32 × CS × Ob × Ob × Ob × FS} (hf : f_X11_meet v v_coming v_dusk v_dpicks v_dkeeps v_known v_fam B6 p0 p1 p2 = some res) : CMi l yX11_meet cX11_meet 4 (some .int) ({ frames := 8, cells := 8 * ((B6 - v_fam.1)), slots := 96 * ((B6 - v_fam.1)), locals := 177 } : Room) D dT [.ref (a 0), .int p0, .int p1, .int p2] ([wH dT a h_tape h_reader h_friends (a_dusk 0) (a_fam 0 0) (a_coming 0) h_acts h_seen h_pairs h_trials h_imageNow h_imageActs h_imageSeen v, wC dT a_coming (a_dusk 0) (a_fam 0 0) (a_known 0) (pim a_fam v_fam.2.1) v_coming, wD dT a_dusk (a_dpicks 0) (a_dkeeps 0) v_dusk, wR dT a_dpicks v_dpicks, wR dT a_dkeeps v_dkeeps, wK dT a_known v_known, wRw dT v_fam.1 a_fam v_fam.2.2]) (fun u : (Nat → Nat → Nat) => (∀ k, k < v_fam.1 → u k = a_fam k)) (fun u : (Nat → Nat → Nat) => [wH dT a h_tape h_reader h_friends (a_dusk 0) (u 0 0) (a_coming 0) h_acts h_seen h_pairs h_trials h_imageNow h_imageActs h_imageSeen v, wC dT a_coming (a_dusk 0) (u 0 0) (a_known 0) (pim u res.2.2.2.2.2.2.1) res.2.1, wD dT a_dusk (a_dpicks 0) (a_dkeeps 0) res.2.2.1, wR dT a_dpicks res.2.2.2.1, wR dT a_dkeeps res.2.2.2.2.1, wK dT a_known v_known, wRw dT res.2.2.2.2.2.1 u res.2.2.2.2.2.2.2]) res.1 (8 * ((B6 - v_fam.1))) (96 * ((B6 - v_fam.1))) := by
  refine CMi.of (by decide) (Nat.le_of_ble_eq_true rfl) rfl ?_
  intro p e s m args below meth c A C
  unfold f_X11_meet at hf
  have hm6 : v_fam.1 ≤ v_fam.1 := Nat.le_refl _
  have hb6 : v_fam.1 - v_fam.1 ≤ B6 - v_fam.1 := by omega
  have hg6 : ∀ k, k < v_fam.1 → a_fam k = a_fam k := fun _ _ => rfl
  refine wa_widen (k := (8 * ((v_fam.1 - v_fam.1)))) (n := (96 * ((v_fam.1 - v_fam.1)))) (Nat.zero_le _) (Nat.zero_le _) ?_
  refine wa_aload_n C 0 1 dX11_meet_0 rfl rfl ?_
  refine wa_iload_n C 1 2 dX11_meet_1 rfl rfl ?_
  obtain ⟨q1, hq1, hf⟩ := bind_ex hf
  refine wa_callVv (b1 := 0) (q1 := 0) (ci := 11) (ws' := [wH dT a h_tape h_reader h_friends (a_dusk 0) (a_fam 0 0) (a_coming 0) h_acts h_seen h_pairs h_trials h_imageNow h_imageActs h_imageSeen v, wC dT a_coming (a_dusk 0) (a_fam 0 0) (a_known 0) (pim a_fam v_fam.2.1) v_coming, wD dT a_dusk (a_dpicks 0) (a_dkeeps 0) v_dusk, wR dT a_dpicks v_dpicks, wR dT a_dkeeps v_dkeeps, wK dT a_known v_known, wRw dT v_fam.1 a_fam v_fam.2.2]) (As := [.int p0]) C 5 dX11_meet_2 rfl kv_X11_193 (c_X11_needPerson hq1) ⟨rfl, rfl⟩ ⟨Nat.le_of_ble_eq_true rfl, Nat.le_of_ble_eq_true rfl⟩ rfl rfl rfl [0, 6] [1, 2, 3, 4, 5] [5, 0, 1, 2, 3, 4, 6] rfl rfl rfl rfl (by decide) rfl rfl rfl rfl ⟨by show (8 * ((v_fam.1 - v_fam.1))) ≤ 8 * ((B6 - v_fam.1)); omega, by show (96 * ((v_fam.1 - v_fam.1))) ≤ 96 * ((B6 - v_fam.1)); omega⟩ (Nat.le_of_ble_eq_true rfl) ?_
  refine wa_aload_n C 0 6 dX11_meet_5 rfl rfl ?_
  refine wa_iload_n C 2 7 dX11_meet_6 rfl rfl ?_
  obtain ⟨q3, hq3, hf⟩ := bind_ex hf
  refine wa_callVv (b1 := 0) (q1 := 0) (ci := 11) (ws' := [wH dT a h_tape h_reader h_friends (a_dusk 0) (a_fam 0 0) (a_coming 0) h_acts h_seen h_pairs h_trials h_imageNow h_imageActs h_imageSeen v, wC dT a_coming (a_dusk 0) (a_fam 0 0) (a_known 0) (pim a_fam v_fam.2.1) v_coming, wD dT a_dusk (a_dpicks 0) (a_dkeeps 0) v_dusk, wR dT a_dpicks v_dpicks, wR dT a_dkeeps v_dkeeps, wK dT a_known v_known, wRw dT v_fam.1 a_fam v_fam.2.2]) (As := [.int p1]) C 10 dX11_meet_7 rfl kv_X11_193 (c_X11_needPerson hq3) ⟨rfl, rfl⟩ ⟨Nat.le_of_ble_eq_true rfl, Nat.le_of_ble_eq_true rfl⟩ rfl rfl rfl [0, 6] [1, 2, 3, 4, 5] [5, 0, 1, 2, 3, 4, 6] rfl rfl rfl rfl (by decide) rfl rfl rfl rfl ⟨by show (8 * ((v_fam.1 - v_fam.1))) ≤ 8 * ((B6 - v_fam.1)); omega, by show (96 * ((v_fam.1 - v_fam.1))) ≤ 96 * ((B6 - v_fam.1)); omega⟩ (Nat.le_of_ble_eq_true rfl) ?_
  refine wa_iload_n C 3 11 dX11_meet_10 rfl rfl ?_
  refine wa_iconst (v := 1) C 12 dX11_meet_11 rfl rfl ?_
  obtain ⟨q5, hq5, hf⟩ := bind_ex hf
  refine wa_callS0v (As := [.int p2, .int (1 : Int32)]) C 15 dX11_meet_12 rfl ks_X11_273 (c_X11_needWhat hq5) ⟨rfl, rfl⟩ ⟨Nat.le_of_ble_eq_true rfl, Nat.le_of_ble_eq_true rfl⟩ rfl rfl ⟨by show (8 * ((v_fam.1 - v_fam.1))) ≤ 8 * ((B6 - v_fam.1)); omega, by show (96 * ((v_fam.1 - v_fam.1))) ≤ 96 * ((B6 - v_fam.1)); omega⟩ (Nat.le_of_ble_eq_true rfl) ?_
  refine wa_iload_n C 1 16 dX11_meet_15 rfl rfl ?_
  refine wa_iload_n C 2 17 dX11_meet_16 rfl rfl ?_
  refine wa_icmp_ne C 24 20 dX11_meet_17 rfl rfl (fun c7 => ?_) (fun c7 => ?_)
  · replace hf := ite_f hf c7
    refine wa_aload_n C 0 25 dX11_meet_24 rfl rfl ?_
    refine wa_get C 28 0 0 8 dX11_meet_25 rfl iX11 q365 rfl (Nat.le_of_ble_eq_true rfl) rfl rfl rfl ?_
    refine wa_iload_n C 1 29 dX11_meet_28 rfl rfl ?_
    refine wa_iload_n C 2 30 dX11_meet_29 rfl rfl ?_
    refine wa_iload_n C 3 31 dX11_meet_30 rfl rfl ?_
    refine wa_if_ne C 38 34 dX11_meet_31 rfl rfl (fun c8 => ?_) (fun c8 => ?_)
    · replace hf := ite_f hf c8
      refine wa_iconst (v := 0) C 39 dX11_meet_38 rfl rfl ?_
      refine wa_lv (lv' := []) [] rfl ?_
      exact w_X11_meet_J39 C (0 : Int32) p1 p0 v_coming v_dusk v_dpicks v_dkeeps v_fam a_fam hm6 hb6 hg6 hf
    · replace hf := ite_t hf c8
      refine wa_iconst (v := 1) C 35 dX11_meet_34 rfl rfl ?_
      refine wa_goto C 39 dX11_meet_35 rfl ?_
      refine wa_lv (lv' := []) [] rfl ?_
      exact w_X11_meet_J39 C (1 : Int32) p1 p0 v_coming v_dusk v_dpicks v_dkeeps v_fam a_fam hm6 hb6 hg6 hf
  · replace hf := ite_t hf c7
    refine wa_iconst (v := (-1)) C 21 dX11_meet_20 rfl rfl ?_
    refine wa_goto C 42 dX11_meet_21 rfl ?_
    cases hf
    exact wa_irm C (a_fam) dX11_meet_42 hg6 rfl rfl (by show (8 * ((v_fam.1 - v_fam.1))) ≤ 8 * ((B6 - v_fam.1)); omega) (by show (96 * ((v_fam.1 - v_fam.1))) ≤ 96 * ((B6 - v_fam.1)); omega)
theorem kv_X11_287 : KV RX11 287 yX10_inOne cX10_inOne 3 (some .boolean) 2 := KV.mk q1159 q972 q973 q3 q974 ⟨by decide, by decide, by decide +kernel⟩
def f_X11_together_L23 (B6 : Nat) (l1 : Int32) (l2 : Int32) (l3 : Int32) (z0 : Ob) (z5 : Ob) : Nat → Int32 → Int32 → CS → Ob → Ob → Ob → FS → Option (Int32 × CS × Ob × Ob × Ob × FS)
  | 0, _, _, _, _, _, _, _ => none
  | n + 1, l4, l5, z1, z2, z3, z4, z6 => (if l3 < l5 then some (l4, z1, z2, z3, z4, z6) else (f_X1_behind z1 z2 z3 z4 z5 z6 (max z6.1 ((l5).toNatClampNeg + 1)) l5).bind (fun q8 => grd (decide (z6.1 ≤ q8.2.2.2.2.2.1 ∧ q8.2.2.2.2.2.1 = (max z6.1 ((l5).toNatClampNeg + 1)) ∧ (max z6.1 ((l5).toNatClampNeg + 1)) ≤ B6 ∧ 0 < z6.1)) (grd (decide (q8.1 < q8.2.2.2.2.2.1)) ((f_X10_inOne (q8.2.2.2.2.2.2.2 q8.1) l1 l2).bind (fun q12 => (if q12 = 0 then bnd (l5 + 1) (fun x15 => f_X11_together_L23 B6 l1 l2 l3 z0 z5 n l4 x15 q8.2.1 q8.2.2.1 q8.2.2.2.1 q8.2.2.2.2.1 q8.2.2.2.2.2) else bnd (l4 + 1) (fun x16 => bnd (l5 + 1) (fun x17 => f_X11_together_L23 B6 l1 l2 l3 z0 z5 n x16 x17 q8.2.1 q8.2.2.1 q8.2.2.2.1 q8.2.2.2.2.1 q8.2.2.2.2.2))))))))
def f_X11_together (v : Ob) (v_coming : CS) (v_dusk : Ob) (v_dpicks : Ob) (v_dkeeps : Ob) (v_known : Ob) (v_fam : FS) (B6 : Nat) (p0 : Int32) (p1 : Int32) (p2 : Int32) : Option (Int32 × CS × Ob × Ob × Ob × FS) := (f_X11_needPerson v v_fam p0).bind (fun q1 => (f_X11_needPerson v v_fam p1).bind (fun q3 => (f_X11_needWithin p2 (1 : Int32) (100 : Int32)).bind (fun q5 => f_X11_together_L23 B6 p0 p1 p2 v v_known FUEL (0 : Int32) (1 : Int32) v_coming v_dusk v_dpicks v_dkeeps v_fam)))
set_option maxRecDepth 20000 in
theorem w_X11_together_L23 {p : Program} {l : Launch} {e : Env} {s : State} {m : MethodId} {args : Array Value} {below : List Frame} {meth : Method} {c : Code} {D : va_G} {A : Nat → Prop} {dT : Nat → ClassId} {a : Nat → Nat} {a_coming : Nat → Nat} {a_dusk : Nat → Nat} {a_dpicks : Nat → Nat} {a_dkeeps : Nat → Nat} {a_known : Nat → Nat} {h_tape : Nat} {h_reader : Nat} {h_friends : Nat} {h_acts : Nat} {h_seen : Nat} {h_pairs : Nat} {h_trials : Nat} {h_imageNow : Nat} {h_imageActs : Nat} {h_imageSeen : Nat} {m6 B6 : Nat} {r6 : Nat → Nat → Nat} {res : Int32 × CS × Ob × Ob × Ob × FS} {l1 : Int32} {l2 : Int32} {l3 : Int32} {z0 : Ob} {z5 : Ob} (C : Cx p s m args meth c cX11_together 6 RX11 (some .int) D A dT) : ∀ (n : Nat) (l4 : Int32) (l5 : Int32) (z1 : CS) (z2 : Ob) (z3 : Ob) (z4 : Ob) (z6 : FS) (rr6 : Nat → Nat → Nat), m6 ≤ z6.1 → z6.1 - m6 ≤ B6 - m6 → (∀ k, k < m6 → rr6 k = r6 k) → f_X11_together_L23 B6 l1 l2 l3 z0 z5 n l4 l5 z1 z2 z3 z4 z6 = some res → WA p l e ({ frames := 7, cells := 8 * ((B6 - m6)), slots := 96 * ((B6 - m6)), locals := 153 } : Room) s m args below meth c (MQ below (va_Qi (fun r9 u => r9 = res.1 ∧ (fun u : (Nat → Nat → Nat) => (∀ k, k < m6 → u k = r6 k)) u) (fun u t => WB D dT A ((fun u : (Nat → Nat → Nat) => [wH dT a h_tape h_reader h_friends (a_dusk 0) (u 0 0) (a_coming 0) h_acts h_seen h_pairs h_trials h_imageNow h_imageActs h_imageSeen z0, wC dT a_coming (a_dusk 0) (u 0 0) (a_known 0) (pim u res.2.2.2.2.2.2.1) res.2.1, wD dT a_dusk (a_dpicks 0) (a_dkeeps 0) res.2.2.1, wR dT a_dpicks res.2.2.2.1, wR dT a_dkeeps res.2.2.2.2.1, wK dT a_known z5, wRw dT res.2.2.2.2.2.1 u res.2.2.2.2.2.2.2]) u) t) A) args s (8 * ((B6 - m6))) (96 * ((B6 - m6))) A) D A (8 * ((z6.1 - m6))) (96 * ((z6.1 - m6))) 6 23 ([wH dT a h_tape h_reader h_friends (a_dusk 0) (rr6 0 0) (a_coming 0) h_acts h_seen h_pairs h_trials h_imageNow h_imageActs h_imageSeen z0, wC dT a_coming (a_dusk 0) (rr6 0 0) (a_known 0) (pim rr6 z6.2.1) z1, wD dT a_dusk (a_dpicks 0) (a_dkeeps 0) z2, wR dT a_dpicks z3, wR dT a_dkeeps z4, wK dT a_known z5, wRw dT z6.1 rr6 z6.2.2]) [(0, .ref (a 0)), (1, .int l1), (2, .int l2), (3, .int l3), (4, .int l4), (5, .int l5)] [] := by
  intro n
  induction n with
  | zero => intro l4 l5 z1 z2 z3 z4 z6 rr6 hm6 hb6 hg6 hf; cases hf
  | succ n ih =>
    intro l4 l5 z1 z2 z3 z4 z6 rr6 hm6 hb6 hg6 hf
    unfold f_X11_together_L23 at hf
    refine wa_iload C 5 25 dX11_together_23 rfl rfl ?_
    refine wa_iload_n C 3 26 dX11_together_25 rfl rfl ?_
    refine wa_icmp_gt C 55 29 dX11_together_26 rfl rfl (fun c7 => ?_) (fun c7 => ?_)
    · replace hf := ite_t hf c7
      refine wa_iload C 4 57 dX11_together_55 rfl rfl ?_
      cases hf
      exact wa_irm C (rr6) dX11_together_57 hg6 rfl rfl (by show (8 * ((z6.1 - m6))) ≤ 8 * ((B6 - m6)); omega) (by show (96 * ((z6.1 - m6))) ≤ 96 * ((B6 - m6)); omega)
    · replace hf := ite_f hf c7
      refine wa_aload_n C 0 30 dX11_together_29 rfl rfl ?_
      refine wa_get C 33 0 0 8 dX11_together_30 rfl iX11 q365 rfl (Nat.le_of_ble_eq_true rfl) rfl rfl rfl ?_
      refine wa_iload C 5 35 dX11_together_33 rfl rfl ?_
      obtain ⟨q8, hq8, hf⟩ := bind_ex hf
      obtain ⟨g9, hf⟩ := grd_ex hf
      replace g9 := of_decide_eq_true g9
      refine wa_callMr (b1 := 1) (q1 := 0) (ci := 1) (As := [.int l5]) C (fun (ru10 : (Nat → Nat → Nat)) => [wH dT a h_tape h_reader h_friends (a_dusk 0) (rr6 0 0) (a_coming 0) h_acts h_seen h_pairs h_trials h_imageNow h_imageActs h_imageSeen z0, wC dT a_coming (a_dusk 0) (ru10 0 0) (a_known 0) (pim ru10 q8.2.2.2.2.2.2.1) q8.2.1, wD dT a_dusk (a_dpicks 0) (a_dkeeps 0) q8.2.2.1, wR dT a_dpicks q8.2.2.2.1, wR dT a_dkeeps q8.2.2.2.2.1, wK dT a_known z5, wRw dT q8.2.2.2.2.2.1 ru10 q8.2.2.2.2.2.2.2]) 38 dX11_together_35 rfl kv_X11_252 (c_X1_behind hq8) ⟨rfl, rfl⟩ ⟨Nat.le_of_ble_eq_true rfl, Nat.le_of_ble_eq_true rfl⟩ rfl rfl rfl [1, 2, 3, 4, 5, 6] [0] [0, 1, 2, 3, 4, 5, 6] rfl rfl rfl rfl (by decide) rfl (fun _ => rfl) rfl rfl ⟨by show (8 * ((z6.1 - m6))) + 8 * (((max z6.1 ((l5).toNatClampNeg + 1)) - z6.1)) ≤ 8 * ((B6 - m6)); omega, by show (96 * ((z6.1 - m6))) + 96 * (((max z6.1 ((l5).toNatClampNeg + 1)) - z6.1)) ≤ 96 * ((B6 - m6)); omega⟩ (Nat.le_of_ble_eq_true rfl) (fun ru10 hu => ?_)
      refine wa_ws (ws' := [wH dT a h_tape h_reader h_friends (a_dusk 0) (ru10 0 0) (a_coming 0) h_acts h_seen h_pairs h_trials h_imageNow h_imageActs h_imageSeen z0, wC dT a_coming (a_dusk 0) (ru10 0 0) (a_known 0) (pim ru10 q8.2.2.2.2.2.2.1) q8.2.1, wD dT a_dusk (a_dpicks 0) (a_dkeeps 0) q8.2.2.1, wR dT a_dpicks q8.2.2.2.1, wR dT a_dkeeps q8.2.2.2.2.1, wK dT a_known z5, wRw dT q8.2.2.2.2.2.1 ru10 q8.2.2.2.2.2.2.2]) (by rw [hu 0 (by omega)]) ?_
      refine wa_widen (k := (8 * ((q8.2.2.2.2.2.1 - m6)))) (n := (96 * ((q8.2.2.2.2.2.1 - m6)))) (by omega) (by omega) ?_
      replace hg6 : ∀ k, k < m6 → ru10 k = r6 k := fun k hk => (hu k (by omega)).trans (hg6 k hk)
      replace hm6 : m6 ≤ q8.2.2.2.2.2.1 := by omega
      replace hb6 : q8.2.2.2.2.2.1 - m6 ≤ B6 - m6 := by omega
      refine wa_iload_n C 1 39 dX11_together_38 rfl rfl ?_
      refine wa_iload_n C 2 40 dX11_together_39 rfl rfl ?_
      obtain ⟨g11, hf⟩ := grd_ex hf
      replace g11 := of_decide_eq_true g11
      refine wa_openF 6 q8.1 g11 List.not_mem_nil rfl ?_
      obtain ⟨q12, hq12, hf⟩ := bind_ex hf
      refine wa_callVi (b1 := 7) (q1 := 0) (ci := 10) (ws' := [wH dT a h_tape h_reader h_friends (a_dusk 0) (ru10 0 0) (a_coming 0) h_acts h_seen h_pairs h_trials h_imageNow h_imageActs h_imageSeen z0, wC dT a_coming (a_dusk 0) (ru10 0 0) (a_known 0) (pim ru10 q8.2.2.2.2.2.2.1) q8.2.1, wD dT a_dusk (a_dpicks 0) (a_dkeeps 0) q8.2.2.1, wR dT a_dpicks q8.2.2.2.1, wR dT a_dkeeps q8.2.2.2.2.1, wK dT a_known z5, wRm dT q8.2.2.2.2.2.1 [q8.1] ru10 q8.2.2.2.2.2.2.2, wV dT (ru10 q8.1) (q8.2.2.2.2.2.2.2 q8.1)]) (As := [.int l1, .int l2]) C 43 dX11_together_40 rfl kv_X11_287 (c_X10_inOne hq12) ⟨rfl, rfl⟩ ⟨Nat.le_of_ble_eq_true rfl, Nat.le_of_ble_eq_true rfl⟩ rfl rfl rfl [7] [0, 1, 2, 3, 4, 5, 6] [0, 1, 2, 3, 4, 5, 6, 7] rfl rfl rfl rfl (by decide) rfl rfl rfl rfl ⟨by show (8 * ((q8.2.2.2.2.2.1 - m6))) ≤ 8 * ((B6 - m6)); omega, by show (96 * ((q8.2.2.2.2.2.1 - m6))) ≤ 96 * ((B6 - m6)); omega⟩ (Nat.le_of_ble_eq_true rfl) ?_
      refine wa_closeR (ws := [wH dT a h_tape h_reader h_friends (a_dusk 0) (ru10 0 0) (a_coming 0) h_acts h_seen h_pairs h_trials h_imageNow h_imageActs h_imageSeen z0, wC dT a_coming (a_dusk 0) (ru10 0 0) (a_known 0) (pim ru10 q8.2.2.2.2.2.2.1) q8.2.1, wD dT a_dusk (a_dpicks 0) (a_dkeeps 0) q8.2.2.1, wR dT a_dpicks q8.2.2.2.1, wR dT a_dkeeps q8.2.2.2.2.1, wK dT a_known z5, wRm dT q8.2.2.2.2.2.1 [q8.1] ru10 q8.2.2.2.2.2.2.2]) (ws' := [wH dT a h_tape h_reader h_friends (a_dusk 0) (ru10 0 0) (a_coming 0) h_acts h_seen h_pairs h_trials h_imageNow h_imageActs h_imageSeen z0, wC dT a_coming (a_dusk 0) (ru10 0 0) (a_known 0) (pim ru10 q8.2.2.2.2.2.2.1) q8.2.1, wD dT a_dusk (a_dpicks 0) (a_dkeeps 0) q8.2.2.1, wR dT a_dpicks q8.2.2.2.1, wR dT a_dkeeps q8.2.2.2.2.1, wK dT a_known z5, wRm dT q8.2.2.2.2.2.1 [] ru10 q8.2.2.2.2.2.2.2]) 6 q8.1 g11 List.not_mem_nil rfl rfl ?_
      refine wa_ws (ws' := [wH dT a h_tape h_reader h_friends (a_dusk 0) (ru10 0 0) (a_coming 0) h_acts h_seen h_pairs h_trials h_imageNow h_imageActs h_imageSeen z0, wC dT a_coming (a_dusk 0) (ru10 0 0) (a_known 0) (pim ru10 q8.2.2.2.2.2.2.1) q8.2.1, wD dT a_dusk (a_dpicks 0) (a_dkeeps 0) q8.2.2.1, wR dT a_dpicks q8.2.2.2.1, wR dT a_dkeeps q8.2.2.2.2.1, wK dT a_known z5, wRw dT q8.2.2.2.2.2.1 ru10 q8.2.2.2.2.2.2.2]) rfl ?_
      refine wa_if_eq C 49 46 dX11_together_43 rfl rfl (fun c14 => ?_) (fun c14 => ?_)
      · replace hf := ite_t hf c14
        obtain ⟨x15, ex15, hf⟩ := bnd_ex hf
        refine wa_iinc (v := x15) (lv' := [(0, .ref (a 0)), (1, .int l1), (2, .int l2), (3, .int l3), (4, .int l4), (5, .int x15)]) C 5 [1, 2, 3, 4, 5, 0] 52 dX11_together_49 rfl rfl (by rw [ex15]; rfl) (Nat.le_of_ble_eq_true rfl) rfl ?_
        refine wa_goto C 23 dX11_together_52 rfl ?_
        exact ih l4 x15 q8.2.1 q8.2.2.1 q8.2.2.2.1 q8.2.2.2.2.1 q8.2.2.2.2.2 ru10 hm6 hb6 hg6 hf
      · replace hf := ite_f hf c14
        obtain ⟨x16, ex16, hf⟩ := bnd_ex hf
        refine wa_iinc (v := x16) (lv' := [(0, .ref (a 0)), (1, .int l1), (2, .int l2), (3, .int l3), (4, .int x16), (5, .int l5)]) C 4 [1, 2, 3, 4, 0, 5] 49 dX11_together_46 rfl rfl (by rw [ex16]; rfl) (Nat.le_of_ble_eq_true rfl) rfl ?_
        obtain ⟨x17, ex17, hf⟩ := bnd_ex hf
        refine wa_iinc (v := x17) (lv' := [(0, .ref (a 0)), (1, .int l1), (2, .int l2), (3, .int l3), (4, .int x16), (5, .int x17)]) C 5 [1, 2, 3, 4, 5, 0] 52 dX11_together_49 rfl rfl (by rw [ex17]; rfl) (Nat.le_of_ble_eq_true rfl) rfl ?_
        refine wa_goto C 23 dX11_together_52 rfl ?_
        exact ih x16 x17 q8.2.1 q8.2.2.1 q8.2.2.2.1 q8.2.2.2.2.1 q8.2.2.2.2.2 ru10 hm6 hb6 hg6 hf
set_option maxRecDepth 20000 in
theorem c_X11_together {l : Launch} {D : va_G} {dT : Nat → ClassId} {a : Nat → Nat} {a_coming : Nat → Nat} {a_dusk : Nat → Nat} {a_dpicks : Nat → Nat} {a_dkeeps : Nat → Nat} {a_known : Nat → Nat} {a_fam : Nat → Nat → Nat} {h_tape : Nat} {h_reader : Nat} {h_friends : Nat} {h_acts : Nat} {h_seen : Nat} {h_pairs : Nat} {h_trials : Nat} {h_imageNow : Nat} {h_imageActs : Nat} {h_imageSeen : Nat} {v : Ob} {v_coming : CS} {v_dusk : Ob} {v_dpicks : Ob} {v_dkeeps : Ob} {v_known : Ob} {v_fam : FS} {B6 : Nat} {p0 : Int32} {p1 : Int32} {p2 : Int32} {res : Int32 × CS × Ob × Ob × Ob × FS} (hf : f_X11_together v v_coming v_dusk v_dpicks v_dkeeps v_known v_fam B6 p0 p1 p2 = some res) : CMi l yX11_together cX11_together 6 (some .int) ({ frames := 7, cells := 8 * ((B6 - v_fam.1)), slots := 96 * ((B6 - v_fam.1)), locals := 153 } : Room) D dT [.ref (a 0), .int p0, .int p1, .int p2] ([wH dT a h_tape h_reader h_friends (a_dusk 0) (a_fam 0 0) (a_coming 0) h_acts h_seen h_pairs h_trials h_imageNow h_imageActs h_imageSeen v, wC dT a_coming (a_dusk 0) (a_fam 0 0) (a_known 0) (pim a_fam v_fam.2.1) v_coming, wD dT a_dusk (a_dpicks 0) (a_dkeeps 0) v_dusk, wR dT a_dpicks v_dpicks, wR dT a_dkeeps v_dkeeps, wK dT a_known v_known, wRw dT v_fam.1 a_fam v_fam.2.2]) (fun u : (Nat → Nat → Nat) => (∀ k, k < v_fam.1 → u k = a_fam k)) (fun u : (Nat → Nat → Nat) => [wH dT a h_tape h_reader h_friends (a_dusk 0) (u 0 0) (a_coming 0) h_acts h_seen h_pairs h_trials h_imageNow h_imageActs h_imageSeen v, wC dT a_coming (a_dusk 0) (u 0 0) (a_known 0) (pim u res.2.2.2.2.2.2.1) res.2.1, wD dT a_dusk (a_dpicks 0) (a_dkeeps 0) res.2.2.1, wR dT a_dpicks res.2.2.2.1, wR dT a_dkeeps res.2.2.2.2.1, wK dT a_known v_known, wRw dT res.2.2.2.2.2.1 u res.2.2.2.2.2.2.2]) res.1 (8 * ((B6 - v_fam.1))) (96 * ((B6 - v_fam.1))) := by
  refine CMi.of (by decide) (Nat.le_of_ble_eq_true rfl) rfl ?_
  intro p e s m args below meth c A C
  unfold f_X11_together at hf
  have hm6 : v_fam.1 ≤ v_fam.1 := Nat.le_refl _
  have hb6 : v_fam.1 - v_fam.1 ≤ B6 - v_fam.1 := by omega
  have hg6 : ∀ k, k < v_fam.1 → a_fam k = a_fam k := fun _ _ => rfl
  refine wa_widen (k := (8 * ((v_fam.1 - v_fam.1)))) (n := (96 * ((v_fam.1 - v_fam.1)))) (Nat.zero_le _) (Nat.zero_le _) ?_
  refine wa_aload_n C 0 1 dX11_together_0 rfl rfl ?_
  refine wa_iload_n C 1 2 dX11_together_1 rfl rfl ?_
  obtain ⟨q1, hq1, hf⟩ := bind_ex hf
  refine wa_callVv (b1 := 0) (q1 := 0) (ci := 11) (ws' := [wH dT a h_tape h_reader h_friends (a_dusk 0) (a_fam 0 0) (a_coming 0) h_acts h_seen h_pairs h_trials h_imageNow h_imageActs h_imageSeen v, wC dT a_coming (a_dusk 0) (a_fam 0 0) (a_known 0) (pim a_fam v_fam.2.1) v_coming, wD dT a_dusk (a_dpicks 0) (a_dkeeps 0) v_dusk, wR dT a_dpicks v_dpicks, wR dT a_dkeeps v_dkeeps, wK dT a_known v_known, wRw dT v_fam.1 a_fam v_fam.2.2]) (As := [.int p0]) C 5 dX11_together_2 rfl kv_X11_193 (c_X11_needPerson hq1) ⟨rfl, rfl⟩ ⟨Nat.le_of_ble_eq_true rfl, Nat.le_of_ble_eq_true rfl⟩ rfl rfl rfl [0, 6] [1, 2, 3, 4, 5] [5, 0, 1, 2, 3, 4, 6] rfl rfl rfl rfl (by decide) rfl rfl rfl rfl ⟨by show (8 * ((v_fam.1 - v_fam.1))) ≤ 8 * ((B6 - v_fam.1)); omega, by show (96 * ((v_fam.1 - v_fam.1))) ≤ 96 * ((B6 - v_fam.1)); omega⟩ (Nat.le_of_ble_eq_true rfl) ?_
  refine wa_aload_n C 0 6 dX11_together_5 rfl rfl ?_
  refine wa_iload_n C 2 7 dX11_together_6 rfl rfl ?_
  obtain ⟨q3, hq3, hf⟩ := bind_ex hf
  refine wa_callVv (b1 := 0) (q1 := 0) (ci := 11) (ws' := [wH dT a h_tape h_reader h_friends (a_dusk 0) (a_fam 0 0) (a_coming 0) h_acts h_seen h_pairs h_trials h_imageNow h_imageActs h_imageSeen v, wC dT a_coming (a_dusk 0) (a_fam 0 0) (a_known 0) (pim a_fam v_fam.2.1) v_coming, wD dT a_dusk (a_dpicks 0) (a_dkeeps 0) v_dusk, wR dT a_dpicks v_dpicks, wR dT a_dkeeps v_dkeeps, wK dT a_known v_known, wRw dT v_fam.1 a_fam v_fam.2.2]) (As := [.int p1]) C 10 dX11_together_7 rfl kv_X11_193 (c_X11_needPerson hq3) ⟨rfl, rfl⟩ ⟨Nat.le_of_ble_eq_true rfl, Nat.le_of_ble_eq_true rfl⟩ rfl rfl rfl [0, 6] [1, 2, 3, 4, 5] [5, 0, 1, 2, 3, 4, 6] rfl rfl rfl rfl (by decide) rfl rfl rfl rfl ⟨by show (8 * ((v_fam.1 - v_fam.1))) ≤ 8 * ((B6 - v_fam.1)); omega, by show (96 * ((v_fam.1 - v_fam.1))) ≤ 96 * ((B6 - v_fam.1)); omega⟩ (Nat.le_of_ble_eq_true rfl) ?_
  refine wa_iload_n C 3 11 dX11_together_10 rfl rfl ?_
  refine wa_iconst (v := 1) C 12 dX11_together_11 rfl rfl ?_
  refine wa_bipush (v := 100) C 14 dX11_together_12 rfl rfl ?_
  obtain ⟨q5, hq5, hf⟩ := bind_ex hf
  refine wa_callS0v (As := [.int p2, .int (1 : Int32), .int (100 : Int32)]) C 17 dX11_together_14 rfl ks_X11_276 (c_X11_needWithin hq5) ⟨rfl, rfl⟩ ⟨Nat.le_of_ble_eq_true rfl, Nat.le_of_ble_eq_true rfl⟩ rfl rfl ⟨by show (8 * ((v_fam.1 - v_fam.1))) ≤ 8 * ((B6 - v_fam.1)); omega, by show (96 * ((v_fam.1 - v_fam.1))) ≤ 96 * ((B6 - v_fam.1)); omega⟩ (Nat.le_of_ble_eq_true rfl) ?_
  refine wa_iconst (v := 0) C 18 dX11_together_17 rfl rfl ?_
  refine wa_istore (lv' := [(0, .ref (a 0)), (1, .int p0), (2, .int p1), (3, .int p2), (4, .int (0 : Int32))]) C [1, 2, 3, 4, 0] 20 dX11_together_18 rfl (Nat.le_of_ble_eq_true rfl) rfl ?_
  refine wa_iconst (v := 1) C 21 dX11_together_20 rfl rfl ?_
  refine wa_istore (lv' := [(0, .ref (a 0)), (1, .int p0), (2, .int p1), (3, .int p2), (4, .int (0 : Int32)), (5, .int (1 : Int32))]) C [1, 2, 3, 4, 5, 0] 23 dX11_together_21 rfl (Nat.le_of_ble_eq_true rfl) rfl ?_
  exact w_X11_together_L23 C FUEL (0 : Int32) (1 : Int32) v_coming v_dusk v_dpicks v_dkeeps v_fam a_fam hm6 hb6 hg6 hf
theorem kv_X11_291 : KV RX11 291 yX1_firstGoing cX1_firstGoing 3 (some .int) 1 := KV.mk q1167 q1168 q1169 q7 q1170 ⟨by decide, by decide, by decide +kernel⟩
theorem kv_X11_294 : KV RX11 294 yX1_longestStay cX1_longestStay 5 (some .int) 1 := KV.mk q1171 q1172 q1173 q7 q1174 ⟨by decide, by decide, by decide +kernel⟩
def f_X11_goes (v : Ob) (v_coming : CS) (v_dusk : Ob) (v_dpicks : Ob) (v_dkeeps : Ob) (v_known : Ob) (v_fam : FS) (B6 : Nat) (p0 : Int32) (p1 : Int32) : Option (Int32 × CS × Ob × Ob × Ob × FS) := (f_X11_needPerson v v_fam p0).bind (fun q1 => (f_X11_needWhat p1 (1 : Int32)).bind (fun q3 => (if p1 = 0 then (f_X1_firstGoing v_coming v_dusk v_dpicks v_dkeeps v_known v_fam B6 p0).bind (fun q9 => grd (decide (v_fam.1 ≤ q9.2.2.2.2.2.1 ∧ q9.2.2.2.2.2.1 ≤ B6 ∧ 0 < v_fam.1)) (some (q9.1, q9.2.1, q9.2.2.1, q9.2.2.2.1, q9.2.2.2.2.1, q9.2.2.2.2.2))) else (f_X1_longestStay v_coming v_dusk v_dpicks v_dkeeps v_known v_fam B6 p0).bind (fun q6 => grd (decide (v_fam.1 ≤ q6.2.2.2.2.2.1 ∧ q6.2.2.2.2.2.1 ≤ B6 ∧ 0 < v_fam.1)) (some (q6.1, q6.2.1, q6.2.2.1, q6.2.2.2.1, q6.2.2.2.2.1, q6.2.2.2.2.2))))))
set_option maxRecDepth 20000 in
theorem c_X11_goes {l : Launch} {D : va_G} {dT : Nat → ClassId} {a : Nat → Nat} {a_coming : Nat → Nat} {a_dusk : Nat → Nat} {a_dpicks : Nat → Nat} {a_dkeeps : Nat → Nat} {a_known : Nat → Nat} {a_fam : Nat → Nat → Nat} {h_tape : Nat} {h_reader : Nat} {h_friends : Nat} {h_acts : Nat} {h_seen : Nat} {h_pairs : Nat} {h_trials : Nat} {h_imageNow : Nat} {h_imageActs : Nat} {h_imageSeen : Nat} {v : Ob} {v_coming : CS} {v_dusk : Ob} {v_dpicks : Ob} {v_dkeeps : Ob} {v_known : Ob} {v_fam : FS} {B6 : Nat} {p0 : Int32} {p1 : Int32} {res : Int32 × CS × Ob × Ob × Ob × FS} (hf : f_X11_goes v v_coming v_dusk v_dpicks v_dkeeps v_known v_fam B6 p0 p1 = some res) : CMi l yX11_goes cX11_goes 3 (some .int) ({ frames := 8, cells := 8 * ((B6 - v_fam.1)), slots := 96 * ((B6 - v_fam.1)), locals := 177 } : Room) D dT [.ref (a 0), .int p0, .int p1] ([wH dT a h_tape h_reader h_friends (a_dusk 0) (a_fam 0 0) (a_coming 0) h_acts h_seen h_pairs h_trials h_imageNow h_imageActs h_imageSeen v, wC dT a_coming (a_dusk 0) (a_fam 0 0) (a_known 0) (pim a_fam v_fam.2.1) v_coming, wD dT a_dusk (a_dpicks 0) (a_dkeeps 0) v_dusk, wR dT a_dpicks v_dpicks, wR dT a_dkeeps v_dkeeps, wK dT a_known v_known, wRw dT v_fam.1 a_fam v_fam.2.2]) (fun u : (Nat → Nat → Nat) => (∀ k, k < v_fam.1 → u k = a_fam k)) (fun u : (Nat → Nat → Nat) => [wH dT a h_tape h_reader h_friends (a_dusk 0) (u 0 0) (a_coming 0) h_acts h_seen h_pairs h_trials h_imageNow h_imageActs h_imageSeen v, wC dT a_coming (a_dusk 0) (u 0 0) (a_known 0) (pim u res.2.2.2.2.2.2.1) res.2.1, wD dT a_dusk (a_dpicks 0) (a_dkeeps 0) res.2.2.1, wR dT a_dpicks res.2.2.2.1, wR dT a_dkeeps res.2.2.2.2.1, wK dT a_known v_known, wRw dT res.2.2.2.2.2.1 u res.2.2.2.2.2.2.2]) res.1 (8 * ((B6 - v_fam.1))) (96 * ((B6 - v_fam.1))) := by
  refine CMi.of (by decide) (Nat.le_of_ble_eq_true rfl) rfl ?_
  intro p e s m args below meth c A C
  unfold f_X11_goes at hf
  have hm6 : v_fam.1 ≤ v_fam.1 := Nat.le_refl _
  have hb6 : v_fam.1 - v_fam.1 ≤ B6 - v_fam.1 := by omega
  have hg6 : ∀ k, k < v_fam.1 → a_fam k = a_fam k := fun _ _ => rfl
  refine wa_widen (k := (8 * ((v_fam.1 - v_fam.1)))) (n := (96 * ((v_fam.1 - v_fam.1)))) (Nat.zero_le _) (Nat.zero_le _) ?_
  refine wa_aload_n C 0 1 dX11_goes_0 rfl rfl ?_
  refine wa_iload_n C 1 2 dX11_goes_1 rfl rfl ?_
  obtain ⟨q1, hq1, hf⟩ := bind_ex hf
  refine wa_callVv (b1 := 0) (q1 := 0) (ci := 11) (ws' := [wH dT a h_tape h_reader h_friends (a_dusk 0) (a_fam 0 0) (a_coming 0) h_acts h_seen h_pairs h_trials h_imageNow h_imageActs h_imageSeen v, wC dT a_coming (a_dusk 0) (a_fam 0 0) (a_known 0) (pim a_fam v_fam.2.1) v_coming, wD dT a_dusk (a_dpicks 0) (a_dkeeps 0) v_dusk, wR dT a_dpicks v_dpicks, wR dT a_dkeeps v_dkeeps, wK dT a_known v_known, wRw dT v_fam.1 a_fam v_fam.2.2]) (As := [.int p0]) C 5 dX11_goes_2 rfl kv_X11_193 (c_X11_needPerson hq1) ⟨rfl, rfl⟩ ⟨Nat.le_of_ble_eq_true rfl, Nat.le_of_ble_eq_true rfl⟩ rfl rfl rfl [0, 6] [1, 2, 3, 4, 5] [5, 0, 1, 2, 3, 4, 6] rfl rfl rfl rfl (by decide) rfl rfl rfl rfl ⟨by show (8 * ((v_fam.1 - v_fam.1))) ≤ 8 * ((B6 - v_fam.1)); omega, by show (96 * ((v_fam.1 - v_fam.1))) ≤ 96 * ((B6 - v_fam.1)); omega⟩ (Nat.le_of_ble_eq_true rfl) ?_
  refine wa_iload_n C 2 6 dX11_goes_5 rfl rfl ?_
  refine wa_iconst (v := 1) C 7 dX11_goes_6 rfl rfl ?_
  obtain ⟨q3, hq3, hf⟩ := bind_ex hf
  refine wa_callS0v (As := [.int p1, .int (1 : Int32)]) C 10 dX11_goes_7 rfl ks_X11_273 (c_X11_needWhat hq3) ⟨rfl, rfl⟩ ⟨Nat.le_of_ble_eq_true rfl, Nat.le_of_ble_eq_true rfl⟩ rfl rfl ⟨by show (8 * ((v_fam.1 - v_fam.1))) ≤ 8 * ((B6 - v_fam.1)); omega, by show (96 * ((v_fam.1 - v_fam.1))) ≤ 96 * ((B6 - v_fam.1)); omega⟩ (Nat.le_of_ble_eq_true rfl) ?_
  refine wa_iload_n C 2 11 dX11_goes_10 rfl rfl ?_
  refine wa_if_ne C 25 14 dX11_goes_11 rfl rfl (fun c5 => ?_) (fun c5 => ?_)
  · replace hf := ite_f hf c5
    refine wa_aload_n C 0 26 dX11_goes_25 rfl rfl ?_
    refine wa_get C 29 0 0 8 dX11_goes_26 rfl iX11 q365 rfl (Nat.le_of_ble_eq_true rfl) rfl rfl rfl ?_
    refine wa_iload_n C 1 30 dX11_goes_29 rfl rfl ?_
    obtain ⟨q6, hq6, hf⟩ := bind_ex hf
    obtain ⟨g7, hf⟩ := grd_ex hf
    replace g7 := of_decide_eq_true g7
    refine wa_callMi (b1 := 1) (q1 := 0) (ci := 1) (As := [.int p0]) C (fun (ru8 : (Nat → Nat → Nat)) => [wH dT a h_tape h_reader h_friends (a_dusk 0) (a_fam 0 0) (a_coming 0) h_acts h_seen h_pairs h_trials h_imageNow h_imageActs h_imageSeen v, wC dT a_coming (a_dusk 0) (ru8 0 0) (a_known 0) (pim ru8 q6.2.2.2.2.2.2.1) q6.2.1, wD dT a_dusk (a_dpicks 0) (a_dkeeps 0) q6.2.2.1, wR dT a_dpicks q6.2.2.2.1, wR dT a_dkeeps q6.2.2.2.2.1, wK dT a_known v_known, wRw dT q6.2.2.2.2.2.1 ru8 q6.2.2.2.2.2.2.2]) 33 dX11_goes_30 rfl kv_X11_294 (c_X1_longestStay hq6) ⟨rfl, rfl⟩ ⟨Nat.le_of_ble_eq_true rfl, Nat.le_of_ble_eq_true rfl⟩ rfl rfl rfl [1, 2, 3, 4, 5, 6] [0] [0, 1, 2, 3, 4, 5, 6] rfl rfl rfl rfl (by decide) rfl (fun _ => rfl) rfl rfl ⟨by show (8 * ((v_fam.1 - v_fam.1))) + 8 * ((B6 - v_fam.1)) ≤ 8 * ((B6 - v_fam.1)); omega, by show (96 * ((v_fam.1 - v_fam.1))) + 96 * ((B6 - v_fam.1)) ≤ 96 * ((B6 - v_fam.1)); omega⟩ (Nat.le_of_ble_eq_true rfl) (fun ru8 hu => ?_)
    refine wa_ws (ws' := [wH dT a h_tape h_reader h_friends (a_dusk 0) (ru8 0 0) (a_coming 0) h_acts h_seen h_pairs h_trials h_imageNow h_imageActs h_imageSeen v, wC dT a_coming (a_dusk 0) (ru8 0 0) (a_known 0) (pim ru8 q6.2.2.2.2.2.2.1) q6.2.1, wD dT a_dusk (a_dpicks 0) (a_dkeeps 0) q6.2.2.1, wR dT a_dpicks q6.2.2.2.1, wR dT a_dkeeps q6.2.2.2.2.1, wK dT a_known v_known, wRw dT q6.2.2.2.2.2.1 ru8 q6.2.2.2.2.2.2.2]) (by rw [hu 0 (by omega)]) ?_
    refine wa_widen (k := (8 * ((B6 - v_fam.1)))) (n := (96 * ((B6 - v_fam.1)))) (by omega) (by omega) ?_
    replace hg6 : ∀ k, k < v_fam.1 → ru8 k = a_fam k := fun k hk => (hu k (by omega)).trans (hg6 k hk)
    replace hm6 : v_fam.1 ≤ q6.2.2.2.2.2.1 := by omega
    replace hb6 : q6.2.2.2.2.2.1 - v_fam.1 ≤ B6 - v_fam.1 := by omega
    cases hf
    exact wa_irm C (ru8) dX11_goes_33 hg6 rfl rfl (by show (8 * ((B6 - v_fam.1))) ≤ 8 * ((B6 - v_fam.1)); omega) (by show (96 * ((B6 - v_fam.1))) ≤ 96 * ((B6 - v_fam.1)); omega)
  · replace hf := ite_t hf c5
    refine wa_aload_n C 0 15 dX11_goes_14 rfl rfl ?_
    refine wa_get C 18 0 0 8 dX11_goes_15 rfl iX11 q365 rfl (Nat.le_of_ble_eq_true rfl) rfl rfl rfl ?_
    refine wa_iload_n C 1 19 dX11_goes_18 rfl rfl ?_
    obtain ⟨q9, hq9, hf⟩ := bind_ex hf
    obtain ⟨g10, hf⟩ := grd_ex hf
    replace g10 := of_decide_eq_true g10
    refine wa_callMi (b1 := 1) (q1 := 0) (ci := 1) (As := [.int p0]) C (fun (ru11 : (Nat → Nat → Nat)) => [wH dT a h_tape h_reader h_friends (a_dusk 0) (a_fam 0 0) (a_coming 0) h_acts h_seen h_pairs h_trials h_imageNow h_imageActs h_imageSeen v, wC dT a_coming (a_dusk 0) (ru11 0 0) (a_known 0) (pim ru11 q9.2.2.2.2.2.2.1) q9.2.1, wD dT a_dusk (a_dpicks 0) (a_dkeeps 0) q9.2.2.1, wR dT a_dpicks q9.2.2.2.1, wR dT a_dkeeps q9.2.2.2.2.1, wK dT a_known v_known, wRw dT q9.2.2.2.2.2.1 ru11 q9.2.2.2.2.2.2.2]) 22 dX11_goes_19 rfl kv_X11_291 (c_X1_firstGoing hq9) ⟨rfl, rfl⟩ ⟨Nat.le_of_ble_eq_true rfl, Nat.le_of_ble_eq_true rfl⟩ rfl rfl rfl [1, 2, 3, 4, 5, 6] [0] [0, 1, 2, 3, 4, 5, 6] rfl rfl rfl rfl (by decide) rfl (fun _ => rfl) rfl rfl ⟨by show (8 * ((v_fam.1 - v_fam.1))) + 8 * ((B6 - v_fam.1)) ≤ 8 * ((B6 - v_fam.1)); omega, by show (96 * ((v_fam.1 - v_fam.1))) + 96 * ((B6 - v_fam.1)) ≤ 96 * ((B6 - v_fam.1)); omega⟩ (Nat.le_of_ble_eq_true rfl) (fun ru11 hu => ?_)
    refine wa_ws (ws' := [wH dT a h_tape h_reader h_friends (a_dusk 0) (ru11 0 0) (a_coming 0) h_acts h_seen h_pairs h_trials h_imageNow h_imageActs h_imageSeen v, wC dT a_coming (a_dusk 0) (ru11 0 0) (a_known 0) (pim ru11 q9.2.2.2.2.2.2.1) q9.2.1, wD dT a_dusk (a_dpicks 0) (a_dkeeps 0) q9.2.2.1, wR dT a_dpicks q9.2.2.2.1, wR dT a_dkeeps q9.2.2.2.2.1, wK dT a_known v_known, wRw dT q9.2.2.2.2.2.1 ru11 q9.2.2.2.2.2.2.2]) (by rw [hu 0 (by omega)]) ?_
    refine wa_widen (k := (8 * ((B6 - v_fam.1)))) (n := (96 * ((B6 - v_fam.1)))) (by omega) (by omega) ?_
    replace hg6 : ∀ k, k < v_fam.1 → ru11 k = a_fam k := fun k hk => (hu k (by omega)).trans (hg6 k hk)
    replace hm6 : v_fam.1 ≤ q9.2.2.2.2.2.1 := by omega
    replace hb6 : q9.2.2.2.2.2.1 - v_fam.1 ≤ B6 - v_fam.1 := by omega
    refine wa_goto C 33 dX11_goes_22 rfl ?_
    cases hf
    exact wa_irm C (ru11) dX11_goes_33 hg6 rfl rfl (by show (8 * ((B6 - v_fam.1))) ≤ 8 * ((B6 - v_fam.1)); omega) (by show (96 * ((B6 - v_fam.1))) ≤ 96 * ((B6 - v_fam.1)); omega)
theorem kv_X11_297 : KV RX11 297 yX1_firstEmpty cX1_firstEmpty 4 (some .int) 1 := KV.mk q1183 q1184 q1185 q7 q1186 ⟨by decide, by decide, by decide +kernel⟩
def f_X11_falls (v : Ob) (v_coming : CS) (v_dusk : Ob) (v_dpicks : Ob) (v_dkeeps : Ob) (v_known : Ob) (v_fam : FS) (B6 : Nat) (p0 : Int32) : Option (Int32 × CS × Ob × Ob × Ob × FS) := (f_X11_needHouse v v_fam p0).bind (fun q1 => (f_X1_firstEmpty v_coming v_dusk v_dpicks v_dkeeps v_known v_fam B6 p0).bind (fun q3 => grd (decide (v_fam.1 ≤ q3.2.2.2.2.2.1 ∧ q3.2.2.2.2.2.1 ≤ B6 ∧ 0 < v_fam.1)) (some (q3.1, q3.2.1, q3.2.2.1, q3.2.2.2.1, q3.2.2.2.2.1, q3.2.2.2.2.2))))
set_option maxRecDepth 20000 in
theorem c_X11_falls {l : Launch} {D : va_G} {dT : Nat → ClassId} {a : Nat → Nat} {a_coming : Nat → Nat} {a_dusk : Nat → Nat} {a_dpicks : Nat → Nat} {a_dkeeps : Nat → Nat} {a_known : Nat → Nat} {a_fam : Nat → Nat → Nat} {h_tape : Nat} {h_reader : Nat} {h_friends : Nat} {h_acts : Nat} {h_seen : Nat} {h_pairs : Nat} {h_trials : Nat} {h_imageNow : Nat} {h_imageActs : Nat} {h_imageSeen : Nat} {v : Ob} {v_coming : CS} {v_dusk : Ob} {v_dpicks : Ob} {v_dkeeps : Ob} {v_known : Ob} {v_fam : FS} {B6 : Nat} {p0 : Int32} {res : Int32 × CS × Ob × Ob × Ob × FS} (hf : f_X11_falls v v_coming v_dusk v_dpicks v_dkeeps v_known v_fam B6 p0 = some res) : CMi l yX11_falls cX11_falls 2 (some .int) ({ frames := 8, cells := 8 * ((B6 - v_fam.1)), slots := 96 * ((B6 - v_fam.1)), locals := 176 } : Room) D dT [.ref (a 0), .int p0] ([wH dT a h_tape h_reader h_friends (a_dusk 0) (a_fam 0 0) (a_coming 0) h_acts h_seen h_pairs h_trials h_imageNow h_imageActs h_imageSeen v, wC dT a_coming (a_dusk 0) (a_fam 0 0) (a_known 0) (pim a_fam v_fam.2.1) v_coming, wD dT a_dusk (a_dpicks 0) (a_dkeeps 0) v_dusk, wR dT a_dpicks v_dpicks, wR dT a_dkeeps v_dkeeps, wK dT a_known v_known, wRw dT v_fam.1 a_fam v_fam.2.2]) (fun u : (Nat → Nat → Nat) => (∀ k, k < v_fam.1 → u k = a_fam k)) (fun u : (Nat → Nat → Nat) => [wH dT a h_tape h_reader h_friends (a_dusk 0) (u 0 0) (a_coming 0) h_acts h_seen h_pairs h_trials h_imageNow h_imageActs h_imageSeen v, wC dT a_coming (a_dusk 0) (u 0 0) (a_known 0) (pim u res.2.2.2.2.2.2.1) res.2.1, wD dT a_dusk (a_dpicks 0) (a_dkeeps 0) res.2.2.1, wR dT a_dpicks res.2.2.2.1, wR dT a_dkeeps res.2.2.2.2.1, wK dT a_known v_known, wRw dT res.2.2.2.2.2.1 u res.2.2.2.2.2.2.2]) res.1 (8 * ((B6 - v_fam.1))) (96 * ((B6 - v_fam.1))) := by
  refine CMi.of (by decide) (Nat.le_of_ble_eq_true rfl) rfl ?_
  intro p e s m args below meth c A C
  unfold f_X11_falls at hf
  have hm6 : v_fam.1 ≤ v_fam.1 := Nat.le_refl _
  have hb6 : v_fam.1 - v_fam.1 ≤ B6 - v_fam.1 := by omega
  have hg6 : ∀ k, k < v_fam.1 → a_fam k = a_fam k := fun _ _ => rfl
  refine wa_widen (k := (8 * ((v_fam.1 - v_fam.1)))) (n := (96 * ((v_fam.1 - v_fam.1)))) (Nat.zero_le _) (Nat.zero_le _) ?_
  refine wa_aload_n C 0 1 dX11_falls_0 rfl rfl ?_
  refine wa_iload_n C 1 2 dX11_falls_1 rfl rfl ?_
  obtain ⟨q1, hq1, hf⟩ := bind_ex hf
  refine wa_callVv (b1 := 0) (q1 := 0) (ci := 11) (ws' := [wH dT a h_tape h_reader h_friends (a_dusk 0) (a_fam 0 0) (a_coming 0) h_acts h_seen h_pairs h_trials h_imageNow h_imageActs h_imageSeen v, wC dT a_coming (a_dusk 0) (a_fam 0 0) (a_known 0) (pim a_fam v_fam.2.1) v_coming, wD dT a_dusk (a_dpicks 0) (a_dkeeps 0) v_dusk, wR dT a_dpicks v_dpicks, wR dT a_dkeeps v_dkeeps, wK dT a_known v_known, wRw dT v_fam.1 a_fam v_fam.2.2]) (As := [.int p0]) C 5 dX11_falls_2 rfl kv_X11_225 (c_X11_needHouse hq1) ⟨rfl, rfl⟩ ⟨Nat.le_of_ble_eq_true rfl, Nat.le_of_ble_eq_true rfl⟩ rfl rfl rfl [0, 6] [1, 2, 3, 4, 5] [5, 0, 1, 2, 3, 4, 6] rfl rfl rfl rfl (by decide) rfl rfl rfl rfl ⟨by show (8 * ((v_fam.1 - v_fam.1))) ≤ 8 * ((B6 - v_fam.1)); omega, by show (96 * ((v_fam.1 - v_fam.1))) ≤ 96 * ((B6 - v_fam.1)); omega⟩ (Nat.le_of_ble_eq_true rfl) ?_
  refine wa_aload_n C 0 6 dX11_falls_5 rfl rfl ?_
  refine wa_get C 9 0 0 8 dX11_falls_6 rfl iX11 q365 rfl (Nat.le_of_ble_eq_true rfl) rfl rfl rfl ?_
  refine wa_iload_n C 1 10 dX11_falls_9 rfl rfl ?_
  obtain ⟨q3, hq3, hf⟩ := bind_ex hf
  obtain ⟨g4, hf⟩ := grd_ex hf
  replace g4 := of_decide_eq_true g4
  refine wa_callMi (b1 := 1) (q1 := 0) (ci := 1) (As := [.int p0]) C (fun (ru5 : (Nat → Nat → Nat)) => [wH dT a h_tape h_reader h_friends (a_dusk 0) (a_fam 0 0) (a_coming 0) h_acts h_seen h_pairs h_trials h_imageNow h_imageActs h_imageSeen v, wC dT a_coming (a_dusk 0) (ru5 0 0) (a_known 0) (pim ru5 q3.2.2.2.2.2.2.1) q3.2.1, wD dT a_dusk (a_dpicks 0) (a_dkeeps 0) q3.2.2.1, wR dT a_dpicks q3.2.2.2.1, wR dT a_dkeeps q3.2.2.2.2.1, wK dT a_known v_known, wRw dT q3.2.2.2.2.2.1 ru5 q3.2.2.2.2.2.2.2]) 13 dX11_falls_10 rfl kv_X11_297 (c_X1_firstEmpty hq3) ⟨rfl, rfl⟩ ⟨Nat.le_of_ble_eq_true rfl, Nat.le_of_ble_eq_true rfl⟩ rfl rfl rfl [1, 2, 3, 4, 5, 6] [0] [0, 1, 2, 3, 4, 5, 6] rfl rfl rfl rfl (by decide) rfl (fun _ => rfl) rfl rfl ⟨by show (8 * ((v_fam.1 - v_fam.1))) + 8 * ((B6 - v_fam.1)) ≤ 8 * ((B6 - v_fam.1)); omega, by show (96 * ((v_fam.1 - v_fam.1))) + 96 * ((B6 - v_fam.1)) ≤ 96 * ((B6 - v_fam.1)); omega⟩ (Nat.le_of_ble_eq_true rfl) (fun ru5 hu => ?_)
  refine wa_ws (ws' := [wH dT a h_tape h_reader h_friends (a_dusk 0) (ru5 0 0) (a_coming 0) h_acts h_seen h_pairs h_trials h_imageNow h_imageActs h_imageSeen v, wC dT a_coming (a_dusk 0) (ru5 0 0) (a_known 0) (pim ru5 q3.2.2.2.2.2.2.1) q3.2.1, wD dT a_dusk (a_dpicks 0) (a_dkeeps 0) q3.2.2.1, wR dT a_dpicks q3.2.2.2.1, wR dT a_dkeeps q3.2.2.2.2.1, wK dT a_known v_known, wRw dT q3.2.2.2.2.2.1 ru5 q3.2.2.2.2.2.2.2]) (by rw [hu 0 (by omega)]) ?_
  refine wa_widen (k := (8 * ((B6 - v_fam.1)))) (n := (96 * ((B6 - v_fam.1)))) (by omega) (by omega) ?_
  replace hg6 : ∀ k, k < v_fam.1 → ru5 k = a_fam k := fun k hk => (hu k (by omega)).trans (hg6 k hk)
  replace hm6 : v_fam.1 ≤ q3.2.2.2.2.2.1 := by omega
  replace hb6 : q3.2.2.2.2.2.1 - v_fam.1 ≤ B6 - v_fam.1 := by omega
  cases hf
  exact wa_irm C (ru5) dX11_falls_13 hg6 rfl rfl (by show (8 * ((B6 - v_fam.1))) ≤ 8 * ((B6 - v_fam.1)); omega) (by show (96 * ((B6 - v_fam.1))) ≤ 96 * ((B6 - v_fam.1)); omega)
def f_X11_who (v : Ob) (v_coming : CS) (v_dusk : Ob) (v_dpicks : Ob) (v_dkeeps : Ob) (v_known : Ob) (v_fam : FS) (B6 : Nat) (p0 : Int32) (p1 : Int32) (p2 : Int32) : Option (Int32 × CS × Ob × Ob × Ob × FS) := (f_X11_needWithin p0 (0 : Int32) (11 : Int32)).bind (fun q1 => (f_X11_needWithin p1 (0 : Int32) (11 : Int32)).bind (fun q3 => (f_X11_needWithin p2 (0 : Int32) (100 : Int32)).bind (fun q5 => (f_X1_behind v_coming v_dusk v_dpicks v_dkeeps v_known v_fam (max v_fam.1 ((p2).toNatClampNeg + 1)) p2).bind (fun q7 => grd (decide (v_fam.1 ≤ q7.2.2.2.2.2.1 ∧ q7.2.2.2.2.2.1 = (max v_fam.1 ((p2).toNatClampNeg + 1)) ∧ (max v_fam.1 ((p2).toNatClampNeg + 1)) ≤ B6 ∧ 0 < v_fam.1)) (grd (decide (q7.1 < q7.2.2.2.2.2.1)) ((f_X10_at (q7.2.2.2.2.2.2.2 q7.1) p0 p1).bind (fun q11 => some (q11, q7.2.1, q7.2.2.1, q7.2.2.2.1, q7.2.2.2.2.1, q7.2.2.2.2.2))))))))
set_option maxRecDepth 20000 in
theorem c_X11_who {l : Launch} {D : va_G} {dT : Nat → ClassId} {a : Nat → Nat} {a_coming : Nat → Nat} {a_dusk : Nat → Nat} {a_dpicks : Nat → Nat} {a_dkeeps : Nat → Nat} {a_known : Nat → Nat} {a_fam : Nat → Nat → Nat} {h_tape : Nat} {h_reader : Nat} {h_friends : Nat} {h_acts : Nat} {h_seen : Nat} {h_pairs : Nat} {h_trials : Nat} {h_imageNow : Nat} {h_imageActs : Nat} {h_imageSeen : Nat} {v : Ob} {v_coming : CS} {v_dusk : Ob} {v_dpicks : Ob} {v_dkeeps : Ob} {v_known : Ob} {v_fam : FS} {B6 : Nat} {p0 : Int32} {p1 : Int32} {p2 : Int32} {res : Int32 × CS × Ob × Ob × Ob × FS} (hf : f_X11_who v v_coming v_dusk v_dpicks v_dkeeps v_known v_fam B6 p0 p1 p2 = some res) : CMi l yX11_who cX11_who 4 (some .int) ({ frames := 7, cells := 8 * ((B6 - v_fam.1)), slots := 96 * ((B6 - v_fam.1)), locals := 153 } : Room) D dT [.ref (a 0), .int p0, .int p1, .int p2] ([wH dT a h_tape h_reader h_friends (a_dusk 0) (a_fam 0 0) (a_coming 0) h_acts h_seen h_pairs h_trials h_imageNow h_imageActs h_imageSeen v, wC dT a_coming (a_dusk 0) (a_fam 0 0) (a_known 0) (pim a_fam v_fam.2.1) v_coming, wD dT a_dusk (a_dpicks 0) (a_dkeeps 0) v_dusk, wR dT a_dpicks v_dpicks, wR dT a_dkeeps v_dkeeps, wK dT a_known v_known, wRw dT v_fam.1 a_fam v_fam.2.2]) (fun u : (Nat → Nat → Nat) => (∀ k, k < v_fam.1 → u k = a_fam k)) (fun u : (Nat → Nat → Nat) => [wH dT a h_tape h_reader h_friends (a_dusk 0) (u 0 0) (a_coming 0) h_acts h_seen h_pairs h_trials h_imageNow h_imageActs h_imageSeen v, wC dT a_coming (a_dusk 0) (u 0 0) (a_known 0) (pim u res.2.2.2.2.2.2.1) res.2.1, wD dT a_dusk (a_dpicks 0) (a_dkeeps 0) res.2.2.1, wR dT a_dpicks res.2.2.2.1, wR dT a_dkeeps res.2.2.2.2.1, wK dT a_known v_known, wRw dT res.2.2.2.2.2.1 u res.2.2.2.2.2.2.2]) res.1 (8 * ((B6 - v_fam.1))) (96 * ((B6 - v_fam.1))) := by
  refine CMi.of (by decide) (Nat.le_of_ble_eq_true rfl) rfl ?_
  intro p e s m args below meth c A C
  unfold f_X11_who at hf
  have hm6 : v_fam.1 ≤ v_fam.1 := Nat.le_refl _
  have hb6 : v_fam.1 - v_fam.1 ≤ B6 - v_fam.1 := by omega
  have hg6 : ∀ k, k < v_fam.1 → a_fam k = a_fam k := fun _ _ => rfl
  refine wa_widen (k := (8 * ((v_fam.1 - v_fam.1)))) (n := (96 * ((v_fam.1 - v_fam.1)))) (Nat.zero_le _) (Nat.zero_le _) ?_
  refine wa_iload_n C 1 1 dX11_who_0 rfl rfl ?_
  refine wa_iconst (v := 0) C 2 dX11_who_1 rfl rfl ?_
  refine wa_bipush (v := 11) C 4 dX11_who_2 rfl rfl ?_
  obtain ⟨q1, hq1, hf⟩ := bind_ex hf
  refine wa_callS0v (As := [.int p0, .int (0 : Int32), .int (11 : Int32)]) C 7 dX11_who_4 rfl ks_X11_276 (c_X11_needWithin hq1) ⟨rfl, rfl⟩ ⟨Nat.le_of_ble_eq_true rfl, Nat.le_of_ble_eq_true rfl⟩ rfl rfl ⟨by show (8 * ((v_fam.1 - v_fam.1))) ≤ 8 * ((B6 - v_fam.1)); omega, by show (96 * ((v_fam.1 - v_fam.1))) ≤ 96 * ((B6 - v_fam.1)); omega⟩ (Nat.le_of_ble_eq_true rfl) ?_
  refine wa_iload_n C 2 8 dX11_who_7 rfl rfl ?_
  refine wa_iconst (v := 0) C 9 dX11_who_8 rfl rfl ?_
  refine wa_bipush (v := 11) C 11 dX11_who_9 rfl rfl ?_
  obtain ⟨q3, hq3, hf⟩ := bind_ex hf
  refine wa_callS0v (As := [.int p1, .int (0 : Int32), .int (11 : Int32)]) C 14 dX11_who_11 rfl ks_X11_276 (c_X11_needWithin hq3) ⟨rfl, rfl⟩ ⟨Nat.le_of_ble_eq_true rfl, Nat.le_of_ble_eq_true rfl⟩ rfl rfl ⟨by show (8 * ((v_fam.1 - v_fam.1))) ≤ 8 * ((B6 - v_fam.1)); omega, by show (96 * ((v_fam.1 - v_fam.1))) ≤ 96 * ((B6 - v_fam.1)); omega⟩ (Nat.le_of_ble_eq_true rfl) ?_
  refine wa_iload_n C 3 15 dX11_who_14 rfl rfl ?_
  refine wa_iconst (v := 0) C 16 dX11_who_15 rfl rfl ?_
  refine wa_bipush (v := 100) C 18 dX11_who_16 rfl rfl ?_
  obtain ⟨q5, hq5, hf⟩ := bind_ex hf
  refine wa_callS0v (As := [.int p2, .int (0 : Int32), .int (100 : Int32)]) C 21 dX11_who_18 rfl ks_X11_276 (c_X11_needWithin hq5) ⟨rfl, rfl⟩ ⟨Nat.le_of_ble_eq_true rfl, Nat.le_of_ble_eq_true rfl⟩ rfl rfl ⟨by show (8 * ((v_fam.1 - v_fam.1))) ≤ 8 * ((B6 - v_fam.1)); omega, by show (96 * ((v_fam.1 - v_fam.1))) ≤ 96 * ((B6 - v_fam.1)); omega⟩ (Nat.le_of_ble_eq_true rfl) ?_
  refine wa_aload_n C 0 22 dX11_who_21 rfl rfl ?_
  refine wa_get C 25 0 0 8 dX11_who_22 rfl iX11 q365 rfl (Nat.le_of_ble_eq_true rfl) rfl rfl rfl ?_
  refine wa_iload_n C 3 26 dX11_who_25 rfl rfl ?_
  obtain ⟨q7, hq7, hf⟩ := bind_ex hf
  obtain ⟨g8, hf⟩ := grd_ex hf
  replace g8 := of_decide_eq_true g8
  refine wa_callMr (b1 := 1) (q1 := 0) (ci := 1) (As := [.int p2]) C (fun (ru9 : (Nat → Nat → Nat)) => [wH dT a h_tape h_reader h_friends (a_dusk 0) (a_fam 0 0) (a_coming 0) h_acts h_seen h_pairs h_trials h_imageNow h_imageActs h_imageSeen v, wC dT a_coming (a_dusk 0) (ru9 0 0) (a_known 0) (pim ru9 q7.2.2.2.2.2.2.1) q7.2.1, wD dT a_dusk (a_dpicks 0) (a_dkeeps 0) q7.2.2.1, wR dT a_dpicks q7.2.2.2.1, wR dT a_dkeeps q7.2.2.2.2.1, wK dT a_known v_known, wRw dT q7.2.2.2.2.2.1 ru9 q7.2.2.2.2.2.2.2]) 29 dX11_who_26 rfl kv_X11_252 (c_X1_behind hq7) ⟨rfl, rfl⟩ ⟨Nat.le_of_ble_eq_true rfl, Nat.le_of_ble_eq_true rfl⟩ rfl rfl rfl [1, 2, 3, 4, 5, 6] [0] [0, 1, 2, 3, 4, 5, 6] rfl rfl rfl rfl (by decide) rfl (fun _ => rfl) rfl rfl ⟨by show (8 * ((v_fam.1 - v_fam.1))) + 8 * (((max v_fam.1 ((p2).toNatClampNeg + 1)) - v_fam.1)) ≤ 8 * ((B6 - v_fam.1)); omega, by show (96 * ((v_fam.1 - v_fam.1))) + 96 * (((max v_fam.1 ((p2).toNatClampNeg + 1)) - v_fam.1)) ≤ 96 * ((B6 - v_fam.1)); omega⟩ (Nat.le_of_ble_eq_true rfl) (fun ru9 hu => ?_)
  refine wa_ws (ws' := [wH dT a h_tape h_reader h_friends (a_dusk 0) (ru9 0 0) (a_coming 0) h_acts h_seen h_pairs h_trials h_imageNow h_imageActs h_imageSeen v, wC dT a_coming (a_dusk 0) (ru9 0 0) (a_known 0) (pim ru9 q7.2.2.2.2.2.2.1) q7.2.1, wD dT a_dusk (a_dpicks 0) (a_dkeeps 0) q7.2.2.1, wR dT a_dpicks q7.2.2.2.1, wR dT a_dkeeps q7.2.2.2.2.1, wK dT a_known v_known, wRw dT q7.2.2.2.2.2.1 ru9 q7.2.2.2.2.2.2.2]) (by rw [hu 0 (by omega)]) ?_
  refine wa_widen (k := (8 * ((q7.2.2.2.2.2.1 - v_fam.1)))) (n := (96 * ((q7.2.2.2.2.2.1 - v_fam.1)))) (by omega) (by omega) ?_
  replace hg6 : ∀ k, k < v_fam.1 → ru9 k = a_fam k := fun k hk => (hu k (by omega)).trans (hg6 k hk)
  replace hm6 : v_fam.1 ≤ q7.2.2.2.2.2.1 := by omega
  replace hb6 : q7.2.2.2.2.2.1 - v_fam.1 ≤ B6 - v_fam.1 := by omega
  refine wa_iload_n C 1 30 dX11_who_29 rfl rfl ?_
  refine wa_iload_n C 2 31 dX11_who_30 rfl rfl ?_
  obtain ⟨g10, hf⟩ := grd_ex hf
  replace g10 := of_decide_eq_true g10
  refine wa_openF 6 q7.1 g10 List.not_mem_nil rfl ?_
  obtain ⟨q11, hq11, hf⟩ := bind_ex hf
  refine wa_callVi (b1 := 7) (q1 := 0) (ci := 10) (ws' := [wH dT a h_tape h_reader h_friends (a_dusk 0) (ru9 0 0) (a_coming 0) h_acts h_seen h_pairs h_trials h_imageNow h_imageActs h_imageSeen v, wC dT a_coming (a_dusk 0) (ru9 0 0) (a_known 0) (pim ru9 q7.2.2.2.2.2.2.1) q7.2.1, wD dT a_dusk (a_dpicks 0) (a_dkeeps 0) q7.2.2.1, wR dT a_dpicks q7.2.2.2.1, wR dT a_dkeeps q7.2.2.2.2.1, wK dT a_known v_known, wRm dT q7.2.2.2.2.2.1 [q7.1] ru9 q7.2.2.2.2.2.2.2, wV dT (ru9 q7.1) (q7.2.2.2.2.2.2.2 q7.1)]) (As := [.int p0, .int p1]) C 34 dX11_who_31 rfl kv_X11_234 (c_X10_at hq11) ⟨rfl, rfl⟩ ⟨Nat.le_of_ble_eq_true rfl, Nat.le_of_ble_eq_true rfl⟩ rfl rfl rfl [7] [0, 1, 2, 3, 4, 5, 6] [0, 1, 2, 3, 4, 5, 6, 7] rfl rfl rfl rfl (by decide) rfl rfl rfl rfl ⟨by show (8 * ((q7.2.2.2.2.2.1 - v_fam.1))) ≤ 8 * ((B6 - v_fam.1)); omega, by show (96 * ((q7.2.2.2.2.2.1 - v_fam.1))) ≤ 96 * ((B6 - v_fam.1)); omega⟩ (Nat.le_of_ble_eq_true rfl) ?_
  refine wa_closeR (ws := [wH dT a h_tape h_reader h_friends (a_dusk 0) (ru9 0 0) (a_coming 0) h_acts h_seen h_pairs h_trials h_imageNow h_imageActs h_imageSeen v, wC dT a_coming (a_dusk 0) (ru9 0 0) (a_known 0) (pim ru9 q7.2.2.2.2.2.2.1) q7.2.1, wD dT a_dusk (a_dpicks 0) (a_dkeeps 0) q7.2.2.1, wR dT a_dpicks q7.2.2.2.1, wR dT a_dkeeps q7.2.2.2.2.1, wK dT a_known v_known, wRm dT q7.2.2.2.2.2.1 [q7.1] ru9 q7.2.2.2.2.2.2.2]) (ws' := [wH dT a h_tape h_reader h_friends (a_dusk 0) (ru9 0 0) (a_coming 0) h_acts h_seen h_pairs h_trials h_imageNow h_imageActs h_imageSeen v, wC dT a_coming (a_dusk 0) (ru9 0 0) (a_known 0) (pim ru9 q7.2.2.2.2.2.2.1) q7.2.1, wD dT a_dusk (a_dpicks 0) (a_dkeeps 0) q7.2.2.1, wR dT a_dpicks q7.2.2.2.1, wR dT a_dkeeps q7.2.2.2.2.1, wK dT a_known v_known, wRm dT q7.2.2.2.2.2.1 [] ru9 q7.2.2.2.2.2.2.2]) 6 q7.1 g10 List.not_mem_nil rfl rfl ?_
  refine wa_ws (ws' := [wH dT a h_tape h_reader h_friends (a_dusk 0) (ru9 0 0) (a_coming 0) h_acts h_seen h_pairs h_trials h_imageNow h_imageActs h_imageSeen v, wC dT a_coming (a_dusk 0) (ru9 0 0) (a_known 0) (pim ru9 q7.2.2.2.2.2.2.1) q7.2.1, wD dT a_dusk (a_dpicks 0) (a_dkeeps 0) q7.2.2.1, wR dT a_dpicks q7.2.2.2.1, wR dT a_dkeeps q7.2.2.2.2.1, wK dT a_known v_known, wRw dT q7.2.2.2.2.2.1 ru9 q7.2.2.2.2.2.2.2]) rfl ?_
  cases hf
  exact wa_irm C (ru9) dX11_who_34 hg6 rfl rfl (by show (8 * ((q7.2.2.2.2.2.1 - v_fam.1))) ≤ 8 * ((B6 - v_fam.1)); omega) (by show (96 * ((q7.2.2.2.2.2.1 - v_fam.1))) ≤ 96 * ((B6 - v_fam.1)); omega)
theorem kv_X11_300 : KV RX11 300 yX1_sizesRound cX1_sizesRound 4 (some .int) 1 := KV.mk q1202 q1203 q1204 q7 q1205 ⟨by decide, by decide, by decide +kernel⟩
def f_X11_round_J18 (B6 : Nat) (z0 : Ob) (z5 : Ob) (t0 : Int32) (z1 : CS) (z2 : Ob) (z3 : Ob) (z4 : Ob) (z6 : FS) : Option (Int32 × CS × Ob × Ob × Ob × FS) := (f_X1_sizesRound z1 z2 z3 z4 z5 z6 B6 t0).bind (fun q4 => grd (decide (z6.1 ≤ q4.2.2.2.2.2.1 ∧ q4.2.2.2.2.2.1 ≤ B6 ∧ 0 < z6.1)) (some (q4.1, q4.2.1, q4.2.2.1, q4.2.2.2.1, q4.2.2.2.2.1, q4.2.2.2.2.2)))
def f_X11_round (v : Ob) (v_coming : CS) (v_dusk : Ob) (v_dpicks : Ob) (v_dkeeps : Ob) (v_known : Ob) (v_fam : FS) (B6 : Nat) (p0 : Int32) : Option (Int32 × CS × Ob × Ob × Ob × FS) := (f_X11_needWhat p0 (1 : Int32)).bind (fun q1 => (if p0 = 0 then f_X11_round_J18 B6 v v_known (1 : Int32) v_coming v_dusk v_dpicks v_dkeeps v_fam else f_X11_round_J18 B6 v v_known (0 : Int32) v_coming v_dusk v_dpicks v_dkeeps v_fam))
set_option maxRecDepth 20000 in
theorem w_X11_round_J18 {p : Program} {l : Launch} {e : Env} {s : State} {m : MethodId} {args : Array Value} {below : List Frame} {meth : Method} {c : Code} {D : va_G} {A : Nat → Prop} {dT : Nat → ClassId} {a : Nat → Nat} {a_coming : Nat → Nat} {a_dusk : Nat → Nat} {a_dpicks : Nat → Nat} {a_dkeeps : Nat → Nat} {a_known : Nat → Nat} {h_tape : Nat} {h_reader : Nat} {h_friends : Nat} {h_acts : Nat} {h_seen : Nat} {h_pairs : Nat} {h_trials : Nat} {h_imageNow : Nat} {h_imageActs : Nat} {h_imageSeen : Nat} {m6 B6 : Nat} {r6 : Nat → Nat → Nat} {res : Int32 × CS × Ob × Ob × Ob × FS} {z0 : Ob} {z5 : Ob} (C : Cx p s m args meth c cX11_round 2 RX11 (some .int) D A dT) : ∀ (t0 : Int32) (z1 : CS) (z2 : Ob) (z3 : Ob) (z4 : Ob) (z6 : FS) (rr6 : Nat → Nat → Nat), m6 ≤ z6.1 → z6.1 - m6 ≤ B6 - m6 → (∀ k, k < m6 → rr6 k = r6 k) → f_X11_round_J18 B6 z0 z5 t0 z1 z2 z3 z4 z6 = some res → WA p l e ({ frames := 8, cells := 8 * ((B6 - m6)), slots := 96 * ((B6 - m6)), locals := 176 } : Room) s m args below meth c (MQ below (va_Qi (fun r9 u => r9 = res.1 ∧ (fun u : (Nat → Nat → Nat) => (∀ k, k < m6 → u k = r6 k)) u) (fun u t => WB D dT A ((fun u : (Nat → Nat → Nat) => [wH dT a h_tape h_reader h_friends (a_dusk 0) (u 0 0) (a_coming 0) h_acts h_seen h_pairs h_trials h_imageNow h_imageActs h_imageSeen z0, wC dT a_coming (a_dusk 0) (u 0 0) (a_known 0) (pim u res.2.2.2.2.2.2.1) res.2.1, wD dT a_dusk (a_dpicks 0) (a_dkeeps 0) res.2.2.1, wR dT a_dpicks res.2.2.2.1, wR dT a_dkeeps res.2.2.2.2.1, wK dT a_known z5, wRw dT res.2.2.2.2.2.1 u res.2.2.2.2.2.2.2]) u) t) A) args s (8 * ((B6 - m6))) (96 * ((B6 - m6))) A) D A (8 * ((z6.1 - m6))) (96 * ((z6.1 - m6))) 2 18 ([wH dT a h_tape h_reader h_friends (a_dusk 0) (rr6 0 0) (a_coming 0) h_acts h_seen h_pairs h_trials h_imageNow h_imageActs h_imageSeen z0, wC dT a_coming (a_dusk 0) (rr6 0 0) (a_known 0) (pim rr6 z6.2.1) z1, wD dT a_dusk (a_dpicks 0) (a_dkeeps 0) z2, wR dT a_dpicks z3, wR dT a_dkeeps z4, wK dT a_known z5, wRw dT z6.1 rr6 z6.2.2]) [] [.int t0, .ref (a_coming 0)] := by
  intro t0 z1 z2 z3 z4 z6 rr6 hm6 hb6 hg6 hf
  unfold f_X11_round_J18 at hf
  obtain ⟨q4, hq4, hf⟩ := bind_ex hf
  obtain ⟨g5, hf⟩ := grd_ex hf
  replace g5 := of_decide_eq_true g5
  refine wa_callMi (b1 := 1) (q1 := 0) (ci := 1) (As := [.int t0]) C (fun (ru6 : (Nat → Nat → Nat)) => [wH dT a h_tape h_reader h_friends (a_dusk 0) (rr6 0 0) (a_coming 0) h_acts h_seen h_pairs h_trials h_imageNow h_imageActs h_imageSeen z0, wC dT a_coming (a_dusk 0) (ru6 0 0) (a_known 0) (pim ru6 q4.2.2.2.2.2.2.1) q4.2.1, wD dT a_dusk (a_dpicks 0) (a_dkeeps 0) q4.2.2.1, wR dT a_dpicks q4.2.2.2.1, wR dT a_dkeeps q4.2.2.2.2.1, wK dT a_known z5, wRw dT q4.2.2.2.2.2.1 ru6 q4.2.2.2.2.2.2.2]) 21 dX11_round_18 rfl kv_X11_300 (c_X1_sizesRound hq4) ⟨rfl, rfl⟩ ⟨Nat.le_of_ble_eq_true rfl, Nat.le_of_ble_eq_true rfl⟩ rfl rfl rfl [1, 2, 3, 4, 5, 6] [0] [0, 1, 2, 3, 4, 5, 6] rfl rfl rfl rfl (by decide) rfl (fun _ => rfl) rfl rfl ⟨by show (8 * ((z6.1 - m6))) + 8 * ((B6 - z6.1)) ≤ 8 * ((B6 - m6)); omega, by show (96 * ((z6.1 - m6))) + 96 * ((B6 - z6.1)) ≤ 96 * ((B6 - m6)); omega⟩ (Nat.le_of_ble_eq_true rfl) (fun ru6 hu => ?_)
  refine wa_ws (ws' := [wH dT a h_tape h_reader h_friends (a_dusk 0) (ru6 0 0) (a_coming 0) h_acts h_seen h_pairs h_trials h_imageNow h_imageActs h_imageSeen z0, wC dT a_coming (a_dusk 0) (ru6 0 0) (a_known 0) (pim ru6 q4.2.2.2.2.2.2.1) q4.2.1, wD dT a_dusk (a_dpicks 0) (a_dkeeps 0) q4.2.2.1, wR dT a_dpicks q4.2.2.2.1, wR dT a_dkeeps q4.2.2.2.2.1, wK dT a_known z5, wRw dT q4.2.2.2.2.2.1 ru6 q4.2.2.2.2.2.2.2]) (by rw [hu 0 (by omega)]) ?_
  refine wa_widen (k := (8 * ((B6 - m6)))) (n := (96 * ((B6 - m6)))) (by omega) (by omega) ?_
  replace hg6 : ∀ k, k < m6 → ru6 k = r6 k := fun k hk => (hu k (by omega)).trans (hg6 k hk)
  replace hm6 : m6 ≤ q4.2.2.2.2.2.1 := by omega
  replace hb6 : q4.2.2.2.2.2.1 - m6 ≤ B6 - m6 := by omega
  cases hf
  exact wa_irm C (ru6) dX11_round_21 hg6 rfl rfl (by show (8 * ((B6 - m6))) ≤ 8 * ((B6 - m6)); omega) (by show (96 * ((B6 - m6))) ≤ 96 * ((B6 - m6)); omega)
set_option maxRecDepth 20000 in
theorem c_X11_round {l : Launch} {D : va_G} {dT : Nat → ClassId} {a : Nat → Nat} {a_coming : Nat → Nat} {a_dusk : Nat → Nat} {a_dpicks : Nat → Nat} {a_dkeeps : Nat → Nat} {a_known : Nat → Nat} {a_fam : Nat → Nat → Nat} {h_tape : Nat} {h_reader : Nat} {h_friends : Nat} {h_acts : Nat} {h_seen : Nat} {h_pairs : Nat} {h_trials : Nat} {h_imageNow : Nat} {h_imageActs : Nat} {h_imageSeen : Nat} {v : Ob} {v_coming : CS} {v_dusk : Ob} {v_dpicks : Ob} {v_dkeeps : Ob} {v_known : Ob} {v_fam : FS} {B6 : Nat} {p0 : Int32} {res : Int32 × CS × Ob × Ob × Ob × FS} (hf : f_X11_round v v_coming v_dusk v_dpicks v_dkeeps v_known v_fam B6 p0 = some res) : CMi l yX11_round cX11_round 2 (some .int) ({ frames := 8, cells := 8 * ((B6 - v_fam.1)), slots := 96 * ((B6 - v_fam.1)), locals := 176 } : Room) D dT [.ref (a 0), .int p0] ([wH dT a h_tape h_reader h_friends (a_dusk 0) (a_fam 0 0) (a_coming 0) h_acts h_seen h_pairs h_trials h_imageNow h_imageActs h_imageSeen v, wC dT a_coming (a_dusk 0) (a_fam 0 0) (a_known 0) (pim a_fam v_fam.2.1) v_coming, wD dT a_dusk (a_dpicks 0) (a_dkeeps 0) v_dusk, wR dT a_dpicks v_dpicks, wR dT a_dkeeps v_dkeeps, wK dT a_known v_known, wRw dT v_fam.1 a_fam v_fam.2.2]) (fun u : (Nat → Nat → Nat) => (∀ k, k < v_fam.1 → u k = a_fam k)) (fun u : (Nat → Nat → Nat) => [wH dT a h_tape h_reader h_friends (a_dusk 0) (u 0 0) (a_coming 0) h_acts h_seen h_pairs h_trials h_imageNow h_imageActs h_imageSeen v, wC dT a_coming (a_dusk 0) (u 0 0) (a_known 0) (pim u res.2.2.2.2.2.2.1) res.2.1, wD dT a_dusk (a_dpicks 0) (a_dkeeps 0) res.2.2.1, wR dT a_dpicks res.2.2.2.1, wR dT a_dkeeps res.2.2.2.2.1, wK dT a_known v_known, wRw dT res.2.2.2.2.2.1 u res.2.2.2.2.2.2.2]) res.1 (8 * ((B6 - v_fam.1))) (96 * ((B6 - v_fam.1))) := by
  refine CMi.of (by decide) (Nat.le_of_ble_eq_true rfl) rfl ?_
  intro p e s m args below meth c A C
  unfold f_X11_round at hf
  have hm6 : v_fam.1 ≤ v_fam.1 := Nat.le_refl _
  have hb6 : v_fam.1 - v_fam.1 ≤ B6 - v_fam.1 := by omega
  have hg6 : ∀ k, k < v_fam.1 → a_fam k = a_fam k := fun _ _ => rfl
  refine wa_widen (k := (8 * ((v_fam.1 - v_fam.1)))) (n := (96 * ((v_fam.1 - v_fam.1)))) (Nat.zero_le _) (Nat.zero_le _) ?_
  refine wa_iload_n C 1 1 dX11_round_0 rfl rfl ?_
  refine wa_iconst (v := 1) C 2 dX11_round_1 rfl rfl ?_
  obtain ⟨q1, hq1, hf⟩ := bind_ex hf
  refine wa_callS0v (As := [.int p0, .int (1 : Int32)]) C 5 dX11_round_2 rfl ks_X11_273 (c_X11_needWhat hq1) ⟨rfl, rfl⟩ ⟨Nat.le_of_ble_eq_true rfl, Nat.le_of_ble_eq_true rfl⟩ rfl rfl ⟨by show (8 * ((v_fam.1 - v_fam.1))) ≤ 8 * ((B6 - v_fam.1)); omega, by show (96 * ((v_fam.1 - v_fam.1))) ≤ 96 * ((B6 - v_fam.1)); omega⟩ (Nat.le_of_ble_eq_true rfl) ?_
  refine wa_aload_n C 0 6 dX11_round_5 rfl rfl ?_
  refine wa_get C 9 0 0 8 dX11_round_6 rfl iX11 q365 rfl (Nat.le_of_ble_eq_true rfl) rfl rfl rfl ?_
  refine wa_iload_n C 1 10 dX11_round_9 rfl rfl ?_
  refine wa_if_ne C 17 13 dX11_round_10 rfl rfl (fun c3 => ?_) (fun c3 => ?_)
  · replace hf := ite_f hf c3
    refine wa_iconst (v := 0) C 18 dX11_round_17 rfl rfl ?_
    refine wa_lv (lv' := []) [] rfl ?_
    exact w_X11_round_J18 C (0 : Int32) v_coming v_dusk v_dpicks v_dkeeps v_fam a_fam hm6 hb6 hg6 hf
  · replace hf := ite_t hf c3
    refine wa_iconst (v := 1) C 14 dX11_round_13 rfl rfl ?_
    refine wa_goto C 18 dX11_round_14 rfl ?_
    refine wa_lv (lv' := []) [] rfl ?_
    exact w_X11_round_J18 C (1 : Int32) v_coming v_dusk v_dpicks v_dkeeps v_fam a_fam hm6 hb6 hg6 hf
theorem kv_X11_304 : KV RX11 304 yX1_firstAsNow cX1_firstAsNow 2 (some .int) 0 := KV.mk q530 q531 q532 q7 q533 ⟨by decide, by decide, by decide +kernel⟩
def f_X11_asNow (v : Ob) (v_coming : CS) (v_dusk : Ob) (v_dpicks : Ob) (v_dkeeps : Ob) (v_known : Ob) (v_fam : FS) (B6 : Nat) : Option (Int32 × CS × Ob × Ob × Ob × FS) := (f_X1_firstAsNow v_coming v_dusk v_dpicks v_dkeeps v_known v_fam B6).bind (fun q1 => grd (decide (v_fam.1 ≤ q1.2.2.2.2.2.1 ∧ q1.2.2.2.2.2.1 ≤ B6 ∧ 0 < v_fam.1)) (some (q1.1, q1.2.1, q1.2.2.1, q1.2.2.2.1, q1.2.2.2.2.1, q1.2.2.2.2.2)))
set_option maxRecDepth 20000 in
theorem c_X11_asNow {l : Launch} {D : va_G} {dT : Nat → ClassId} {a : Nat → Nat} {a_coming : Nat → Nat} {a_dusk : Nat → Nat} {a_dpicks : Nat → Nat} {a_dkeeps : Nat → Nat} {a_known : Nat → Nat} {a_fam : Nat → Nat → Nat} {h_tape : Nat} {h_reader : Nat} {h_friends : Nat} {h_acts : Nat} {h_seen : Nat} {h_pairs : Nat} {h_trials : Nat} {h_imageNow : Nat} {h_imageActs : Nat} {h_imageSeen : Nat} {v : Ob} {v_coming : CS} {v_dusk : Ob} {v_dpicks : Ob} {v_dkeeps : Ob} {v_known : Ob} {v_fam : FS} {B6 : Nat} {res : Int32 × CS × Ob × Ob × Ob × FS} (hf : f_X11_asNow v v_coming v_dusk v_dpicks v_dkeeps v_known v_fam B6 = some res) : CMi l yX11_asNow cX11_asNow 1 (some .int) ({ frames := 8, cells := 8 * ((B6 - v_fam.1)), slots := 96 * ((B6 - v_fam.1)), locals := 174 } : Room) D dT [.ref (a 0)] ([wH dT a h_tape h_reader h_friends (a_dusk 0) (a_fam 0 0) (a_coming 0) h_acts h_seen h_pairs h_trials h_imageNow h_imageActs h_imageSeen v, wC dT a_coming (a_dusk 0) (a_fam 0 0) (a_known 0) (pim a_fam v_fam.2.1) v_coming, wD dT a_dusk (a_dpicks 0) (a_dkeeps 0) v_dusk, wR dT a_dpicks v_dpicks, wR dT a_dkeeps v_dkeeps, wK dT a_known v_known, wRw dT v_fam.1 a_fam v_fam.2.2]) (fun u : (Nat → Nat → Nat) => (∀ k, k < v_fam.1 → u k = a_fam k)) (fun u : (Nat → Nat → Nat) => [wH dT a h_tape h_reader h_friends (a_dusk 0) (u 0 0) (a_coming 0) h_acts h_seen h_pairs h_trials h_imageNow h_imageActs h_imageSeen v, wC dT a_coming (a_dusk 0) (u 0 0) (a_known 0) (pim u res.2.2.2.2.2.2.1) res.2.1, wD dT a_dusk (a_dpicks 0) (a_dkeeps 0) res.2.2.1, wR dT a_dpicks res.2.2.2.1, wR dT a_dkeeps res.2.2.2.2.1, wK dT a_known v_known, wRw dT res.2.2.2.2.2.1 u res.2.2.2.2.2.2.2]) res.1 (8 * ((B6 - v_fam.1))) (96 * ((B6 - v_fam.1))) := by
  refine CMi.of (by decide) (Nat.le_of_ble_eq_true rfl) rfl ?_
  intro p e s m args below meth c A C
  unfold f_X11_asNow at hf
  have hm6 : v_fam.1 ≤ v_fam.1 := Nat.le_refl _
  have hb6 : v_fam.1 - v_fam.1 ≤ B6 - v_fam.1 := by omega
  have hg6 : ∀ k, k < v_fam.1 → a_fam k = a_fam k := fun _ _ => rfl
  refine wa_widen (k := (8 * ((v_fam.1 - v_fam.1)))) (n := (96 * ((v_fam.1 - v_fam.1)))) (Nat.zero_le _) (Nat.zero_le _) ?_
  refine wa_aload_n C 0 1 dX11_asNow_0 rfl rfl ?_
  refine wa_get C 4 0 0 8 dX11_asNow_1 rfl iX11 q365 rfl (Nat.le_of_ble_eq_true rfl) rfl rfl rfl ?_
  obtain ⟨q1, hq1, hf⟩ := bind_ex hf
  obtain ⟨g2, hf⟩ := grd_ex hf
  replace g2 := of_decide_eq_true g2
  refine wa_callMi (b1 := 1) (q1 := 0) (ci := 1) (As := []) C (fun (ru3 : (Nat → Nat → Nat)) => [wH dT a h_tape h_reader h_friends (a_dusk 0) (a_fam 0 0) (a_coming 0) h_acts h_seen h_pairs h_trials h_imageNow h_imageActs h_imageSeen v, wC dT a_coming (a_dusk 0) (ru3 0 0) (a_known 0) (pim ru3 q1.2.2.2.2.2.2.1) q1.2.1, wD dT a_dusk (a_dpicks 0) (a_dkeeps 0) q1.2.2.1, wR dT a_dpicks q1.2.2.2.1, wR dT a_dkeeps q1.2.2.2.2.1, wK dT a_known v_known, wRw dT q1.2.2.2.2.2.1 ru3 q1.2.2.2.2.2.2.2]) 7 dX11_asNow_4 rfl kv_X11_304 (c_X1_firstAsNow hq1) ⟨rfl, rfl⟩ ⟨Nat.le_of_ble_eq_true rfl, Nat.le_of_ble_eq_true rfl⟩ rfl rfl rfl [1, 2, 3, 4, 5, 6] [0] [0, 1, 2, 3, 4, 5, 6] rfl rfl rfl rfl (by decide) rfl (fun _ => rfl) rfl rfl ⟨by show (8 * ((v_fam.1 - v_fam.1))) + 8 * ((B6 - v_fam.1)) ≤ 8 * ((B6 - v_fam.1)); omega, by show (96 * ((v_fam.1 - v_fam.1))) + 96 * ((B6 - v_fam.1)) ≤ 96 * ((B6 - v_fam.1)); omega⟩ (Nat.le_of_ble_eq_true rfl) (fun ru3 hu => ?_)
  refine wa_ws (ws' := [wH dT a h_tape h_reader h_friends (a_dusk 0) (ru3 0 0) (a_coming 0) h_acts h_seen h_pairs h_trials h_imageNow h_imageActs h_imageSeen v, wC dT a_coming (a_dusk 0) (ru3 0 0) (a_known 0) (pim ru3 q1.2.2.2.2.2.2.1) q1.2.1, wD dT a_dusk (a_dpicks 0) (a_dkeeps 0) q1.2.2.1, wR dT a_dpicks q1.2.2.2.1, wR dT a_dkeeps q1.2.2.2.2.1, wK dT a_known v_known, wRw dT q1.2.2.2.2.2.1 ru3 q1.2.2.2.2.2.2.2]) (by rw [hu 0 (by omega)]) ?_
  refine wa_widen (k := (8 * ((B6 - v_fam.1)))) (n := (96 * ((B6 - v_fam.1)))) (by omega) (by omega) ?_
  replace hg6 : ∀ k, k < v_fam.1 → ru3 k = a_fam k := fun k hk => (hu k (by omega)).trans (hg6 k hk)
  replace hm6 : v_fam.1 ≤ q1.2.2.2.2.2.1 := by omega
  replace hb6 : q1.2.2.2.2.2.1 - v_fam.1 ≤ B6 - v_fam.1 := by omega
  cases hf
  exact wa_irm C (ru3) dX11_asNow_7 hg6 rfl rfl (by show (8 * ((B6 - v_fam.1))) ≤ 8 * ((B6 - v_fam.1)); omega) (by show (96 * ((B6 - v_fam.1))) ≤ 96 * ((B6 - v_fam.1)); omega)
theorem kv_X11_307 : KV RX11 307 yX1_knownWithin cX1_knownWithin 3 (some (.object "NewHouses$Known")) 1 := KV.mk q1217 q1218 q1219 q7 q1220 ⟨by decide, by decide, by decide +kernel⟩
theorem kv_X11_311 : KV RX11 311 yX4_of cX4_of 2 (some .int) 1 := KV.mk q1221 q1222 q1223 q8 q1224 ⟨by decide, by decide, by decide +kernel⟩
def f_X11_known (v : Ob) (v_coming : CS) (v_dusk : Ob) (v_dpicks : Ob) (v_dkeeps : Ob) (v_known : Ob) (v_fam : FS) (B6 : Nat) (p0 : Int32) (p1 : Int32) : Option (Int32 × CS × Ob × Ob × Ob × Ob × FS) := (f_X11_needPerson v v_fam p0).bind (fun q1 => (f_X11_needWithin p1 (0 : Int32) (100 : Int32)).bind (fun q3 => (f_X1_knownWithin v_coming v_dusk v_dpicks v_dkeeps v_known v_fam B6 p1).bind (fun q5 => grd (decide (v_fam.1 ≤ q5.2.2.2.2.2.1 ∧ q5.2.2.2.2.2.1 ≤ B6 ∧ 0 < v_fam.1)) ((f_X4_of q5.2.2.2.2.1 p0).bind (fun q8 => some (q8, q5.1, q5.2.1, q5.2.2.1, q5.2.2.2.1, q5.2.2.2.2.1, q5.2.2.2.2.2))))))
set_option maxRecDepth 20000 in
theorem c_X11_known {l : Launch} {D : va_G} {dT : Nat → ClassId} {a : Nat → Nat} {a_coming : Nat → Nat} {a_dusk : Nat → Nat} {a_dpicks : Nat → Nat} {a_dkeeps : Nat → Nat} {a_known : Nat → Nat} {a_fam : Nat → Nat → Nat} {h_tape : Nat} {h_reader : Nat} {h_friends : Nat} {h_acts : Nat} {h_seen : Nat} {h_pairs : Nat} {h_trials : Nat} {h_imageNow : Nat} {h_imageActs : Nat} {h_imageSeen : Nat} {v : Ob} {v_coming : CS} {v_dusk : Ob} {v_dpicks : Ob} {v_dkeeps : Ob} {v_known : Ob} {v_fam : FS} {B6 : Nat} {p0 : Int32} {p1 : Int32} {res : Int32 × CS × Ob × Ob × Ob × Ob × FS} (hf : f_X11_known v v_coming v_dusk v_dpicks v_dkeeps v_known v_fam B6 p0 p1 = some res) : CMi l yX11_known cX11_known 3 (some .int) ({ frames := 8, cells := 8 * ((B6 - v_fam.1)), slots := 96 * ((B6 - v_fam.1)), locals := 175 } : Room) D dT [.ref (a 0), .int p0, .int p1] ([wH dT a h_tape h_reader h_friends (a_dusk 0) (a_fam 0 0) (a_coming 0) h_acts h_seen h_pairs h_trials h_imageNow h_imageActs h_imageSeen v, wC dT a_coming (a_dusk 0) (a_fam 0 0) (a_known 0) (pim a_fam v_fam.2.1) v_coming, wD dT a_dusk (a_dpicks 0) (a_dkeeps 0) v_dusk, wR dT a_dpicks v_dpicks, wR dT a_dkeeps v_dkeeps, wK dT a_known v_known, wRw dT v_fam.1 a_fam v_fam.2.2]) (fun u : (Nat → Nat → Nat) => (∀ k, k < v_fam.1 → u k = a_fam k)) (fun u : (Nat → Nat → Nat) => [wH dT a h_tape h_reader h_friends (a_dusk 0) (u 0 0) (a_coming 0) h_acts h_seen h_pairs h_trials h_imageNow h_imageActs h_imageSeen v, wC dT a_coming (a_dusk 0) (u 0 0) (a_known 0) (pim u res.2.2.2.2.2.2.2.1) res.2.1, wD dT a_dusk (a_dpicks 0) (a_dkeeps 0) res.2.2.1, wR dT a_dpicks res.2.2.2.1, wR dT a_dkeeps res.2.2.2.2.1, wK dT a_known res.2.2.2.2.2.1, wRw dT res.2.2.2.2.2.2.1 u res.2.2.2.2.2.2.2.2]) res.1 (8 * ((B6 - v_fam.1))) (96 * ((B6 - v_fam.1))) := by
  refine CMi.of (by decide) (Nat.le_of_ble_eq_true rfl) rfl ?_
  intro p e s m args below meth c A C
  unfold f_X11_known at hf
  have hm6 : v_fam.1 ≤ v_fam.1 := Nat.le_refl _
  have hb6 : v_fam.1 - v_fam.1 ≤ B6 - v_fam.1 := by omega
  have hg6 : ∀ k, k < v_fam.1 → a_fam k = a_fam k := fun _ _ => rfl
  refine wa_widen (k := (8 * ((v_fam.1 - v_fam.1)))) (n := (96 * ((v_fam.1 - v_fam.1)))) (Nat.zero_le _) (Nat.zero_le _) ?_
  refine wa_aload_n C 0 1 dX11_known_0 rfl rfl ?_
  refine wa_iload_n C 1 2 dX11_known_1 rfl rfl ?_
  obtain ⟨q1, hq1, hf⟩ := bind_ex hf
  refine wa_callVv (b1 := 0) (q1 := 0) (ci := 11) (ws' := [wH dT a h_tape h_reader h_friends (a_dusk 0) (a_fam 0 0) (a_coming 0) h_acts h_seen h_pairs h_trials h_imageNow h_imageActs h_imageSeen v, wC dT a_coming (a_dusk 0) (a_fam 0 0) (a_known 0) (pim a_fam v_fam.2.1) v_coming, wD dT a_dusk (a_dpicks 0) (a_dkeeps 0) v_dusk, wR dT a_dpicks v_dpicks, wR dT a_dkeeps v_dkeeps, wK dT a_known v_known, wRw dT v_fam.1 a_fam v_fam.2.2]) (As := [.int p0]) C 5 dX11_known_2 rfl kv_X11_193 (c_X11_needPerson hq1) ⟨rfl, rfl⟩ ⟨Nat.le_of_ble_eq_true rfl, Nat.le_of_ble_eq_true rfl⟩ rfl rfl rfl [0, 6] [1, 2, 3, 4, 5] [5, 0, 1, 2, 3, 4, 6] rfl rfl rfl rfl (by decide) rfl rfl rfl rfl ⟨by show (8 * ((v_fam.1 - v_fam.1))) ≤ 8 * ((B6 - v_fam.1)); omega, by show (96 * ((v_fam.1 - v_fam.1))) ≤ 96 * ((B6 - v_fam.1)); omega⟩ (Nat.le_of_ble_eq_true rfl) ?_
  refine wa_iload_n C 2 6 dX11_known_5 rfl rfl ?_
  refine wa_iconst (v := 0) C 7 dX11_known_6 rfl rfl ?_
  refine wa_bipush (v := 100) C 9 dX11_known_7 rfl rfl ?_
  obtain ⟨q3, hq3, hf⟩ := bind_ex hf
  refine wa_callS0v (As := [.int p1, .int (0 : Int32), .int (100 : Int32)]) C 12 dX11_known_9 rfl ks_X11_276 (c_X11_needWithin hq3) ⟨rfl, rfl⟩ ⟨Nat.le_of_ble_eq_true rfl, Nat.le_of_ble_eq_true rfl⟩ rfl rfl ⟨by show (8 * ((v_fam.1 - v_fam.1))) ≤ 8 * ((B6 - v_fam.1)); omega, by show (96 * ((v_fam.1 - v_fam.1))) ≤ 96 * ((B6 - v_fam.1)); omega⟩ (Nat.le_of_ble_eq_true rfl) ?_
  refine wa_aload_n C 0 13 dX11_known_12 rfl rfl ?_
  refine wa_get C 16 0 0 8 dX11_known_13 rfl iX11 q365 rfl (Nat.le_of_ble_eq_true rfl) rfl rfl rfl ?_
  refine wa_iload_n C 2 17 dX11_known_16 rfl rfl ?_
  obtain ⟨q5, hq5, hf⟩ := bind_ex hf
  obtain ⟨g6, hf⟩ := grd_ex hf
  replace g6 := of_decide_eq_true g6
  refine wa_callMr (b1 := 1) (q1 := 0) (ci := 1) (As := [.int p1]) C (fun (ru7 : (Nat → Nat → Nat)) => [wH dT a h_tape h_reader h_friends (a_dusk 0) (a_fam 0 0) (a_coming 0) h_acts h_seen h_pairs h_trials h_imageNow h_imageActs h_imageSeen v, wC dT a_coming (a_dusk 0) (ru7 0 0) (a_known 0) (pim ru7 q5.2.2.2.2.2.2.1) q5.1, wD dT a_dusk (a_dpicks 0) (a_dkeeps 0) q5.2.1, wR dT a_dpicks q5.2.2.1, wR dT a_dkeeps q5.2.2.2.1, wK dT a_known q5.2.2.2.2.1, wRw dT q5.2.2.2.2.2.1 ru7 q5.2.2.2.2.2.2.2]) 20 dX11_known_17 rfl kv_X11_307 (c_X1_knownWithin hq5) ⟨rfl, rfl⟩ ⟨Nat.le_of_ble_eq_true rfl, Nat.le_of_ble_eq_true rfl⟩ rfl rfl rfl [1, 2, 3, 4, 5, 6] [0] [0, 1, 2, 3, 4, 5, 6] rfl rfl rfl rfl (by decide) rfl (fun _ => rfl) rfl rfl ⟨by show (8 * ((v_fam.1 - v_fam.1))) + 8 * ((B6 - v_fam.1)) ≤ 8 * ((B6 - v_fam.1)); omega, by show (96 * ((v_fam.1 - v_fam.1))) + 96 * ((B6 - v_fam.1)) ≤ 96 * ((B6 - v_fam.1)); omega⟩ (Nat.le_of_ble_eq_true rfl) (fun ru7 hu => ?_)
  refine wa_ws (ws' := [wH dT a h_tape h_reader h_friends (a_dusk 0) (ru7 0 0) (a_coming 0) h_acts h_seen h_pairs h_trials h_imageNow h_imageActs h_imageSeen v, wC dT a_coming (a_dusk 0) (ru7 0 0) (a_known 0) (pim ru7 q5.2.2.2.2.2.2.1) q5.1, wD dT a_dusk (a_dpicks 0) (a_dkeeps 0) q5.2.1, wR dT a_dpicks q5.2.2.1, wR dT a_dkeeps q5.2.2.2.1, wK dT a_known q5.2.2.2.2.1, wRw dT q5.2.2.2.2.2.1 ru7 q5.2.2.2.2.2.2.2]) (by rw [hu 0 (by omega)]) ?_
  refine wa_widen (k := (8 * ((B6 - v_fam.1)))) (n := (96 * ((B6 - v_fam.1)))) (by omega) (by omega) ?_
  replace hg6 : ∀ k, k < v_fam.1 → ru7 k = a_fam k := fun k hk => (hu k (by omega)).trans (hg6 k hk)
  replace hm6 : v_fam.1 ≤ q5.2.2.2.2.2.1 := by omega
  replace hb6 : q5.2.2.2.2.2.1 - v_fam.1 ≤ B6 - v_fam.1 := by omega
  refine wa_iload_n C 1 21 dX11_known_20 rfl rfl ?_
  obtain ⟨q8, hq8, hf⟩ := bind_ex hf
  refine wa_callVi (b1 := 5) (q1 := 0) (ci := 4) (ws' := [wH dT a h_tape h_reader h_friends (a_dusk 0) (ru7 0 0) (a_coming 0) h_acts h_seen h_pairs h_trials h_imageNow h_imageActs h_imageSeen v, wC dT a_coming (a_dusk 0) (ru7 0 0) (a_known 0) (pim ru7 q5.2.2.2.2.2.2.1) q5.1, wD dT a_dusk (a_dpicks 0) (a_dkeeps 0) q5.2.1, wR dT a_dpicks q5.2.2.1, wR dT a_dkeeps q5.2.2.2.1, wK dT a_known q5.2.2.2.2.1, wRw dT q5.2.2.2.2.2.1 ru7 q5.2.2.2.2.2.2.2]) (As := [.int p0]) C 24 dX11_known_21 rfl kv_X11_311 (c_X4_of hq8) ⟨rfl, rfl⟩ ⟨Nat.le_of_ble_eq_true rfl, Nat.le_of_ble_eq_true rfl⟩ rfl rfl rfl [5] [0, 1, 2, 3, 4, 6] [0, 1, 2, 3, 4, 6, 5] rfl rfl rfl rfl (by decide) rfl rfl rfl rfl ⟨by show (8 * ((B6 - v_fam.1))) ≤ 8 * ((B6 - v_fam.1)); omega, by show (96 * ((B6 - v_fam.1))) ≤ 96 * ((B6 - v_fam.1)); omega⟩ (Nat.le_of_ble_eq_true rfl) ?_
  cases hf
  exact wa_irm C (ru7) dX11_known_24 hg6 rfl rfl (by show (8 * ((B6 - v_fam.1))) ≤ 8 * ((B6 - v_fam.1)); omega) (by show (96 * ((B6 - v_fam.1))) ≤ 96 * ((B6 - v_fam.1)); omega)
