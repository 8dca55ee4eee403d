theorem kv_X11_314 : KV RX11 314 yX1_untilAllKnown cX1_untilAllKnown 2 (some .int) 0 := KV.mk q551 q552 q553 q7 q554 ⟨by decide, by decide, by decide +kernel⟩
def f_X11_allKnown (v : Ob) (v_coming : CS) (v_dusk : Ob) (v_dpicks : Ob) (v_dkeeps : Ob) (v_known : Ob) (v_fam : FS) (B6 : Nat) : Option (Int32 × CS × Ob × Ob × Ob × Ob × FS) := (f_X1_untilAllKnown v_coming v_dusk v_dpicks v_dkeeps v_known v_fam B6).bind (fun q1 => grd (decide (v_fam.1 ≤ q1.2.2.2.2.2.2.1 ∧ q1.2.2.2.2.2.2.1 ≤ B6 ∧ 0 < v_fam.1)) (some (q1.1, q1.2.1, q1.2.2.1, q1.2.2.2.1, q1.2.2.2.2.1, q1.2.2.2.2.2.1, q1.2.2.2.2.2.2)))
set_option maxRecDepth 20000 in
theorem c_X11_allKnown {l : Launch} {D : va_G} {dT : Nat → ClassId} {a : Nat → Nat} {a_coming : Nat → Nat} {a_dusk : Nat → Nat} {a_dpicks : Nat → Nat} {a_dkeeps : Nat → Nat} {a_known : Nat → Nat} {a_fam : Nat → Nat → Nat} {h_tape : Nat} {h_reader : Nat} {h_friends : Nat} {h_acts : Nat} {h_seen : Nat} {h_pairs : Nat} {h_trials : Nat} {h_imageNow : Nat} {h_imageActs : Nat} {h_imageSeen : Nat} {v : Ob} {v_coming : CS} {v_dusk : Ob} {v_dpicks : Ob} {v_dkeeps : Ob} {v_known : Ob} {v_fam : FS} {B6 : Nat} {res : Int32 × CS × Ob × Ob × Ob × Ob × FS} (hf : f_X11_allKnown v v_coming v_dusk v_dpicks v_dkeeps v_known v_fam B6 = some res) : CMi l yX11_allKnown cX11_allKnown 1 (some .int) ({ frames := 8, cells := 8 * ((B6 - v_fam.1)), slots := 96 * ((B6 - v_fam.1)), locals := 174 } : Room) D dT [.ref (a 0)] ([wH dT a h_tape h_reader h_friends (a_dusk 0) (a_fam 0 0) (a_coming 0) h_acts h_seen h_pairs h_trials h_imageNow h_imageActs h_imageSeen v, wC dT a_coming (a_dusk 0) (a_fam 0 0) (a_known 0) (pim a_fam v_fam.2.1) v_coming, wD dT a_dusk (a_dpicks 0) (a_dkeeps 0) v_dusk, wR dT a_dpicks v_dpicks, wR dT a_dkeeps v_dkeeps, wK dT a_known v_known, wRw dT v_fam.1 a_fam v_fam.2.2]) (fun u : (Nat → Nat → Nat) => (∀ k, k < v_fam.1 → u k = a_fam k)) (fun u : (Nat → Nat → Nat) => [wH dT a h_tape h_reader h_friends (a_dusk 0) (u 0 0) (a_coming 0) h_acts h_seen h_pairs h_trials h_imageNow h_imageActs h_imageSeen v, wC dT a_coming (a_dusk 0) (u 0 0) (a_known 0) (pim u res.2.2.2.2.2.2.2.1) res.2.1, wD dT a_dusk (a_dpicks 0) (a_dkeeps 0) res.2.2.1, wR dT a_dpicks res.2.2.2.1, wR dT a_dkeeps res.2.2.2.2.1, wK dT a_known res.2.2.2.2.2.1, wRw dT res.2.2.2.2.2.2.1 u res.2.2.2.2.2.2.2.2]) res.1 (8 * ((B6 - v_fam.1))) (96 * ((B6 - v_fam.1))) := by
  refine CMi.of (by decide) (Nat.le_of_ble_eq_true rfl) rfl ?_
  intro p e s m args below meth c A C
  unfold f_X11_allKnown at hf
  have hm6 : v_fam.1 ≤ v_fam.1 := Nat.le_refl _
  have hb6 : v_fam.1 - v_fam.1 ≤ B6 - v_fam.1 := by omega
  have hg6 : ∀ k, k < v_fam.1 → a_fam k = a_fam k := fun _ _ => rfl
  refine wa_widen (k := (8 * ((v_fam.1 - v_fam.1)))) (n := (96 * ((v_fam.1 - v_fam.1)))) (Nat.zero_le _) (Nat.zero_le _) ?_
  refine wa_aload_n C 0 1 dX11_allKnown_0 rfl rfl ?_
  refine wa_get C 4 0 0 8 dX11_allKnown_1 rfl iX11 q365 rfl (Nat.le_of_ble_eq_true rfl) rfl rfl rfl ?_
  obtain ⟨q1, hq1, hf⟩ := bind_ex hf
  obtain ⟨g2, hf⟩ := grd_ex hf
  replace g2 := of_decide_eq_true g2
  refine wa_callMi (b1 := 1) (q1 := 0) (ci := 1) (As := []) C (fun (ru3 : (Nat → Nat → Nat)) => [wH dT a h_tape h_reader h_friends (a_dusk 0) (a_fam 0 0) (a_coming 0) h_acts h_seen h_pairs h_trials h_imageNow h_imageActs h_imageSeen v, wC dT a_coming (a_dusk 0) (ru3 0 0) (a_known 0) (pim ru3 q1.2.2.2.2.2.2.2.1) q1.2.1, wD dT a_dusk (a_dpicks 0) (a_dkeeps 0) q1.2.2.1, wR dT a_dpicks q1.2.2.2.1, wR dT a_dkeeps q1.2.2.2.2.1, wK dT a_known q1.2.2.2.2.2.1, wRw dT q1.2.2.2.2.2.2.1 ru3 q1.2.2.2.2.2.2.2.2]) 7 dX11_allKnown_4 rfl kv_X11_314 (c_X1_untilAllKnown hq1) ⟨rfl, rfl⟩ ⟨Nat.le_of_ble_eq_true rfl, Nat.le_of_ble_eq_true rfl⟩ rfl rfl rfl [1, 2, 3, 4, 5, 6] [0] [0, 1, 2, 3, 4, 5, 6] rfl rfl rfl rfl (by decide) rfl (fun _ => rfl) rfl rfl ⟨by show (8 * ((v_fam.1 - v_fam.1))) + 8 * ((B6 - v_fam.1)) ≤ 8 * ((B6 - v_fam.1)); omega, by show (96 * ((v_fam.1 - v_fam.1))) + 96 * ((B6 - v_fam.1)) ≤ 96 * ((B6 - v_fam.1)); omega⟩ (Nat.le_of_ble_eq_true rfl) (fun ru3 hu => ?_)
  refine wa_ws (ws' := [wH dT a h_tape h_reader h_friends (a_dusk 0) (ru3 0 0) (a_coming 0) h_acts h_seen h_pairs h_trials h_imageNow h_imageActs h_imageSeen v, wC dT a_coming (a_dusk 0) (ru3 0 0) (a_known 0) (pim ru3 q1.2.2.2.2.2.2.2.1) q1.2.1, wD dT a_dusk (a_dpicks 0) (a_dkeeps 0) q1.2.2.1, wR dT a_dpicks q1.2.2.2.1, wR dT a_dkeeps q1.2.2.2.2.1, wK dT a_known q1.2.2.2.2.2.1, wRw dT q1.2.2.2.2.2.2.1 ru3 q1.2.2.2.2.2.2.2.2]) (by rw [hu 0 (by omega)]) ?_
  refine wa_widen (k := (8 * ((B6 - v_fam.1)))) (n := (96 * ((B6 - v_fam.1)))) (by omega) (by omega) ?_
  replace hg6 : ∀ k, k < v_fam.1 → ru3 k = a_fam k := fun k hk => (hu k (by omega)).trans (hg6 k hk)
  replace hm6 : v_fam.1 ≤ q1.2.2.2.2.2.2.1 := by omega
  replace hb6 : q1.2.2.2.2.2.2.1 - v_fam.1 ≤ B6 - v_fam.1 := by omega
  cases hf
  exact wa_irm C (ru3) dX11_allKnown_7 hg6 rfl rfl (by show (8 * ((B6 - v_fam.1))) ≤ 8 * ((B6 - v_fam.1)); omega) (by show (96 * ((B6 - v_fam.1))) ≤ 96 * ((B6 - v_fam.1)); omega)
theorem kv_X11_317 : KV RX11 317 yX9_bestMove cX9_bestMove 10 (some .int) 4 := KV.mk q1232 q1233 q1234 q12 q1235 ⟨by decide, by decide, by decide +kernel⟩
def f_X11_toMeet (v : Ob) (v_coming : CS) (v_dusk : Ob) (v_dpicks : Ob) (v_dkeeps : Ob) (v_known : Ob) (v_fam : FS) (v_trials : Ob) (v_trial : Ob) (v_tknown : Ob) (B6 : Nat) (p0 : Int32) (p1 : Int32) : Option (Int32 × CS × Ob × Ob × Ob × FS × Ob) := (f_X11_needPerson v v_fam p0).bind (fun q1 => (f_X11_needPerson v v_fam p1).bind (fun q3 => grd (decide (0 < v_fam.1)) ((f_X10_inOne (v_fam.2.2 0) p0 p1).bind (fun q6 => (if q6 = 0 then (f_X1_firstWith v_coming v_dusk v_dpicks v_dkeeps v_known v_fam B6 p0 p1 (1 : Int32)).bind (fun q9 => grd (decide (v_fam.1 ≤ q9.2.2.2.2.2.1 ∧ q9.2.2.2.2.2.1 ≤ B6 ∧ 0 < v_fam.1)) (grd (decide (0 < q9.2.2.2.2.2.1)) ((f_X9_bestMove v_trials q9.2.2.1 q9.2.2.2.1 q9.2.2.2.2.1 v_trial v_tknown (q9.2.2.2.2.2.2.2 0) p0 p1 q9.1).bind (fun q13 => some (q13.1, q9.2.1, q13.2.1, q13.2.2.1, q13.2.2.2.1, q9.2.2.2.2.2, q13.2.2.2.2))))) else some ((-1 : Int32), v_coming, v_dusk, v_dpicks, v_dkeeps, v_fam, v_trial))))))
set_option maxRecDepth 20000 in
theorem c_X11_toMeet {l : Launch} {D : va_G} {dT : Nat → ClassId} {a : Nat → Nat} {a_coming : Nat → Nat} {a_dusk : Nat → Nat} {a_dpicks : Nat → Nat} {a_dkeeps : Nat → Nat} {a_known : Nat → Nat} {a_fam : Nat → Nat → Nat} {a_trials : Nat → Nat} {a_trial : Nat → Nat} {a_tknown : Nat → Nat} {h_tape : Nat} {h_reader : Nat} {h_friends : Nat} {h_acts : Nat} {h_seen : Nat} {h_pairs : Nat} {h_imageNow : Nat} {h_imageActs : Nat} {h_imageSeen : Nat} {v : Ob} {v_coming : CS} {v_dusk : Ob} {v_dpicks : Ob} {v_dkeeps : Ob} {v_known : Ob} {v_fam : FS} {v_trials : Ob} {v_trial : Ob} {v_tknown : Ob} {B6 : Nat} {p0 : Int32} {p1 : Int32} {res : Int32 × CS × Ob × Ob × Ob × FS × Ob} (hf : f_X11_toMeet v v_coming v_dusk v_dpicks v_dkeeps v_known v_fam v_trials v_trial v_tknown B6 p0 p1 = some res) : CMi l yX11_toMeet cX11_toMeet 3 (some .int) ({ frames := 8, cells := 8 * ((B6 - v_fam.1)), slots := 96 * ((B6 - v_fam.1)), locals := 183 } : Room) D dT [.ref (a 0), .int p0, .int p1] ([wH dT a h_tape h_reader h_friends (a_dusk 0) (a_fam 0 0) (a_coming 0) h_acts h_seen h_pairs (a_trials 0) h_imageNow h_imageActs h_imageSeen v, wC dT a_coming (a_dusk 0) (a_fam 0 0) (a_known 0) (pim a_fam v_fam.2.1) v_coming, wD dT a_dusk (a_dpicks 0) (a_dkeeps 0) v_dusk, wR dT a_dpicks v_dpicks, wR dT a_dkeeps v_dkeeps, wK dT a_known v_known, wRw dT v_fam.1 a_fam v_fam.2.2, wT dT a_trials (a_dusk 0) (a_trial 0) (a_tknown 0) v_trials, wV dT a_trial v_trial, wK dT a_tknown v_tknown]) (fun u : (Nat → Nat → Nat) => (∀ k, k < v_fam.1 → u k = a_fam k)) (fun u : (Nat → Nat → Nat) => [wH dT a h_tape h_reader h_friends (a_dusk 0) (u 0 0) (a_coming 0) h_acts h_seen h_pairs (a_trials 0) h_imageNow h_imageActs h_imageSeen v, wC dT a_coming (a_dusk 0) (u 0 0) (a_known 0) (pim u res.2.2.2.2.2.1.2.1) res.2.1, wD dT a_dusk (a_dpicks 0) (a_dkeeps 0) res.2.2.1, wR dT a_dpicks res.2.2.2.1, wR dT a_dkeeps res.2.2.2.2.1, wK dT a_known v_known, wRw dT res.2.2.2.2.2.1.1 u res.2.2.2.2.2.1.2.2, wT dT a_trials (a_dusk 0) (a_trial 0) (a_tknown 0) v_trials, wV dT a_trial res.2.2.2.2.2.2, wK dT a_tknown v_tknown]) res.1 (8 * ((B6 - v_fam.1))) (96 * ((B6 - v_fam.1))) := by
  refine CMi.of (by decide) (Nat.le_of_ble_eq_true rfl) rfl ?_
  intro p e s m args below meth c A C
  unfold f_X11_toMeet at hf
  have hm6 : v_fam.1 ≤ v_fam.1 := Nat.le_refl _
  have hb6 : v_fam.1 - v_fam.1 ≤ B6 - v_fam.1 := by omega
  have hg6 : ∀ k, k < v_fam.1 → a_fam k = a_fam k := fun _ _ => rfl
  refine wa_widen (k := (8 * ((v_fam.1 - v_fam.1)))) (n := (96 * ((v_fam.1 - v_fam.1)))) (Nat.zero_le _) (Nat.zero_le _) ?_
  refine wa_aload_n C 0 1 dX11_toMeet_0 rfl rfl ?_
  refine wa_iload_n C 1 2 dX11_toMeet_1 rfl rfl ?_
  obtain ⟨q1, hq1, hf⟩ := bind_ex hf
  refine wa_callVv (b1 := 0) (q1 := 0) (ci := 11) (ws' := [wH dT a h_tape h_reader h_friends (a_dusk 0) (a_fam 0 0) (a_coming 0) h_acts h_seen h_pairs (a_trials 0) h_imageNow h_imageActs h_imageSeen v, wC dT a_coming (a_dusk 0) (a_fam 0 0) (a_known 0) (pim a_fam v_fam.2.1) v_coming, wD dT a_dusk (a_dpicks 0) (a_dkeeps 0) v_dusk, wR dT a_dpicks v_dpicks, wR dT a_dkeeps v_dkeeps, wK dT a_known v_known, wRw dT v_fam.1 a_fam v_fam.2.2, wT dT a_trials (a_dusk 0) (a_trial 0) (a_tknown 0) v_trials, wV dT a_trial v_trial, wK dT a_tknown v_tknown]) (As := [.int p0]) C 5 dX11_toMeet_2 rfl kv_X11_193 (c_X11_needPerson hq1) ⟨rfl, rfl⟩ ⟨Nat.le_of_ble_eq_true rfl, Nat.le_of_ble_eq_true rfl⟩ rfl rfl rfl [0, 6] [1, 2, 3, 4, 5, 7, 8, 9] [8, 0, 1, 2, 3, 4, 9, 5, 6, 7] rfl rfl rfl rfl (by decide) rfl rfl rfl rfl ⟨by show (8 * ((v_fam.1 - v_fam.1))) ≤ 8 * ((B6 - v_fam.1)); omega, by show (96 * ((v_fam.1 - v_fam.1))) ≤ 96 * ((B6 - v_fam.1)); omega⟩ (Nat.le_of_ble_eq_true rfl) ?_
  refine wa_aload_n C 0 6 dX11_toMeet_5 rfl rfl ?_
  refine wa_iload_n C 2 7 dX11_toMeet_6 rfl rfl ?_
  obtain ⟨q3, hq3, hf⟩ := bind_ex hf
  refine wa_callVv (b1 := 0) (q1 := 0) (ci := 11) (ws' := [wH dT a h_tape h_reader h_friends (a_dusk 0) (a_fam 0 0) (a_coming 0) h_acts h_seen h_pairs (a_trials 0) h_imageNow h_imageActs h_imageSeen v, wC dT a_coming (a_dusk 0) (a_fam 0 0) (a_known 0) (pim a_fam v_fam.2.1) v_coming, wD dT a_dusk (a_dpicks 0) (a_dkeeps 0) v_dusk, wR dT a_dpicks v_dpicks, wR dT a_dkeeps v_dkeeps, wK dT a_known v_known, wRw dT v_fam.1 a_fam v_fam.2.2, wT dT a_trials (a_dusk 0) (a_trial 0) (a_tknown 0) v_trials, wV dT a_trial v_trial, wK dT a_tknown v_tknown]) (As := [.int p1]) C 10 dX11_toMeet_7 rfl kv_X11_193 (c_X11_needPerson hq3) ⟨rfl, rfl⟩ ⟨Nat.le_of_ble_eq_true rfl, Nat.le_of_ble_eq_true rfl⟩ rfl rfl rfl [0, 6] [1, 2, 3, 4, 5, 7, 8, 9] [8, 0, 1, 2, 3, 4, 9, 5, 6, 7] rfl rfl rfl rfl (by decide) rfl rfl rfl rfl ⟨by show (8 * ((v_fam.1 - v_fam.1))) ≤ 8 * ((B6 - v_fam.1)); omega, by show (96 * ((v_fam.1 - v_fam.1))) ≤ 96 * ((B6 - v_fam.1)); omega⟩ (Nat.le_of_ble_eq_true rfl) ?_
  refine wa_aload_n C 0 11 dX11_toMeet_10 rfl rfl ?_
  refine wa_get C 14 0 0 7 dX11_toMeet_11 rfl iX11 q364 rfl (Nat.le_of_ble_eq_true rfl) rfl rfl rfl ?_
  refine wa_iload_n C 1 15 dX11_toMeet_14 rfl rfl ?_
  refine wa_iload_n C 2 16 dX11_toMeet_15 rfl rfl ?_
  obtain ⟨g5, hf⟩ := grd_ex hf
  replace g5 := of_decide_eq_true g5
  refine wa_openF 6 0 g5 List.not_mem_nil rfl ?_
  obtain ⟨q6, hq6, hf⟩ := bind_ex hf
  refine wa_callVi (b1 := 10) (q1 := 0) (ci := 10) (ws' := [wH dT a h_tape h_reader h_friends (a_dusk 0) (a_fam 0 0) (a_coming 0) h_acts h_seen h_pairs (a_trials 0) h_imageNow h_imageActs h_imageSeen v, wC dT a_coming (a_dusk 0) (a_fam 0 0) (a_known 0) (pim a_fam v_fam.2.1) v_coming, wD dT a_dusk (a_dpicks 0) (a_dkeeps 0) v_dusk, wR dT a_dpicks v_dpicks, wR dT a_dkeeps v_dkeeps, wK dT a_known v_known, wRm dT v_fam.1 [0] a_fam v_fam.2.2, wT dT a_trials (a_dusk 0) (a_trial 0) (a_tknown 0) v_trials, wV dT a_trial v_trial, wK dT a_tknown v_tknown, wV dT (a_fam 0) (v_fam.2.2 0)]) (As := [.int p0, .int p1]) C 19 dX11_toMeet_16 rfl kv_X11_287 (c_X10_inOne hq6) ⟨rfl, rfl⟩ ⟨Nat.le_of_ble_eq_true rfl, Nat.le_of_ble_eq_true rfl⟩ rfl rfl rfl [10] [0, 1, 2, 3, 4, 5, 6, 7, 8, 9] [0, 1, 2, 3, 4, 5, 6, 7, 8, 9, 10] rfl rfl rfl rfl (by decide) rfl rfl rfl rfl ⟨by show (8 * ((v_fam.1 - v_fam.1))) ≤ 8 * ((B6 - v_fam.1)); omega, by show (96 * ((v_fam.1 - v_fam.1))) ≤ 96 * ((B6 - v_fam.1)); omega⟩ (Nat.le_of_ble_eq_true rfl) ?_
  refine wa_closeR (ws := [wH dT a h_tape h_reader h_friends (a_dusk 0) (a_fam 0 0) (a_coming 0) h_acts h_seen h_pairs (a_trials 0) h_imageNow h_imageActs h_imageSeen v, wC dT a_coming (a_dusk 0) (a_fam 0 0) (a_known 0) (pim a_fam v_fam.2.1) v_coming, wD dT a_dusk (a_dpicks 0) (a_dkeeps 0) v_dusk, wR dT a_dpicks v_dpicks, wR dT a_dkeeps v_dkeeps, wK dT a_known v_known, wRm dT v_fam.1 [0] a_fam v_fam.2.2, wT dT a_trials (a_dusk 0) (a_trial 0) (a_tknown 0) v_trials, wV dT a_trial v_trial, wK dT a_tknown v_tknown]) (ws' := [wH dT a h_tape h_reader h_friends (a_dusk 0) (a_fam 0 0) (a_coming 0) h_acts h_seen h_pairs (a_trials 0) h_imageNow h_imageActs h_imageSeen v, wC dT a_coming (a_dusk 0) (a_fam 0 0) (a_known 0) (pim a_fam v_fam.2.1) v_coming, wD dT a_dusk (a_dpicks 0) (a_dkeeps 0) v_dusk, wR dT a_dpicks v_dpicks, wR dT a_dkeeps v_dkeeps, wK dT a_known v_known, wRm dT v_fam.1 [] a_fam v_fam.2.2, wT dT a_trials (a_dusk 0) (a_trial 0) (a_tknown 0) v_trials, wV dT a_trial v_trial, wK dT a_tknown v_tknown]) 6 0 g5 List.not_mem_nil rfl rfl ?_
  refine wa_ws (ws' := [wH dT a h_tape h_reader h_friends (a_dusk 0) (a_fam 0 0) (a_coming 0) h_acts h_seen h_pairs (a_trials 0) h_imageNow h_imageActs h_imageSeen v, wC dT a_coming (a_dusk 0) (a_fam 0 0) (a_known 0) (pim a_fam v_fam.2.1) v_coming, wD dT a_dusk (a_dpicks 0) (a_dkeeps 0) v_dusk, wR dT a_dpicks v_dpicks, wR dT a_dkeeps v_dkeeps, wK dT a_known v_known, wRw dT v_fam.1 a_fam v_fam.2.2, wT dT a_trials (a_dusk 0) (a_trial 0) (a_tknown 0) v_trials, wV dT a_trial v_trial, wK dT a_tknown v_tknown]) rfl ?_
  refine wa_if_eq C 24 22 dX11_toMeet_19 rfl rfl (fun c8 => ?_) (fun c8 => ?_)
  · replace hf := ite_t hf c8
    refine wa_aload_n C 0 25 dX11_toMeet_24 rfl rfl ?_
    refine wa_get C 28 0 0 12 dX11_toMeet_25 rfl iX11 q369 rfl (Nat.le_of_ble_eq_true rfl) rfl rfl rfl ?_
    refine wa_aload_n C 0 29 dX11_toMeet_28 rfl rfl ?_
    refine wa_get C 32 0 0 7 dX11_toMeet_29 rfl iX11 q364 rfl (Nat.le_of_ble_eq_true rfl) rfl rfl rfl ?_
    refine wa_iload_n C 1 33 dX11_toMeet_32 rfl rfl ?_
    refine wa_iload_n C 2 34 dX11_toMeet_33 rfl rfl ?_
    refine wa_aload_n C 0 35 dX11_toMeet_34 rfl rfl ?_
    refine wa_get C 38 0 0 8 dX11_toMeet_35 rfl iX11 q365 rfl (Nat.le_of_ble_eq_true rfl) rfl rfl rfl ?_
    refine wa_iload_n C 1 39 dX11_toMeet_38 rfl rfl ?_
    refine wa_iload_n C 2 40 dX11_toMeet_39 rfl rfl ?_
    refine wa_iconst (v := 1) C 41 dX11_toMeet_40 rfl rfl ?_
    obtain ⟨q9, hq9, hf⟩ := bind_ex hf
    obtain ⟨g10, hf⟩ := grd_ex hf
    replace g10 := of_decide_eq_true g10
    refine wa_callMi (b1 := 1) (q1 := 0) (ci := 1) (As := [.int p0, .int p1, .int (1 : Int32)]) C (fun (ru11 : (Nat → Nat → Nat)) => [wH dT a h_tape h_reader h_friends (a_dusk 0) (a_fam 0 0) (a_coming 0) h_acts h_seen h_pairs (a_trials 0) h_imageNow h_imageActs h_imageSeen v, wC dT a_coming (a_dusk 0) (ru11 0 0) (a_known 0) (pim ru11 q9.2.2.2.2.2.2.1) q9.2.1, wD dT a_dusk (a_dpicks 0) (a_dkeeps 0) q9.2.2.1, wR dT a_dpicks q9.2.2.2.1, wR dT a_dkeeps q9.2.2.2.2.1, wK dT a_known v_known, wRw dT q9.2.2.2.2.2.1 ru11 q9.2.2.2.2.2.2.2, wT dT a_trials (a_dusk 0) (a_trial 0) (a_tknown 0) v_trials, wV dT a_trial v_trial, wK dT a_tknown v_tknown]) 44 dX11_toMeet_41 rfl kv_X11_283 (c_X1_firstWith hq9) ⟨rfl, rfl⟩ ⟨Nat.le_of_ble_eq_true rfl, Nat.le_of_ble_eq_true rfl⟩ rfl rfl rfl [1, 2, 3, 4, 5, 6] [0, 7, 8, 9] [0, 4, 5, 6, 7, 8, 9, 1, 2, 3] rfl rfl rfl rfl (by decide) rfl (fun _ => rfl) rfl rfl ⟨by show (8 * ((v_fam.1 - v_fam.1))) + 8 * ((B6 - v_fam.1)) ≤ 8 * ((B6 - v_fam.1)); omega, by show (96 * ((v_fam.1 - v_fam.1))) + 96 * ((B6 - v_fam.1)) ≤ 96 * ((B6 - v_fam.1)); omega⟩ (Nat.le_of_ble_eq_true rfl) (fun ru11 hu => ?_)
    refine wa_ws (ws' := [wH dT a h_tape h_reader h_friends (a_dusk 0) (ru11 0 0) (a_coming 0) h_acts h_seen h_pairs (a_trials 0) h_imageNow h_imageActs h_imageSeen v, wC dT a_coming (a_dusk 0) (ru11 0 0) (a_known 0) (pim ru11 q9.2.2.2.2.2.2.1) q9.2.1, wD dT a_dusk (a_dpicks 0) (a_dkeeps 0) q9.2.2.1, wR dT a_dpicks q9.2.2.2.1, wR dT a_dkeeps q9.2.2.2.2.1, wK dT a_known v_known, wRw dT q9.2.2.2.2.2.1 ru11 q9.2.2.2.2.2.2.2, wT dT a_trials (a_dusk 0) (a_trial 0) (a_tknown 0) v_trials, wV dT a_trial v_trial, wK dT a_tknown v_tknown]) (by rw [hu 0 (by omega)]) ?_
    refine wa_widen (k := (8 * ((B6 - v_fam.1)))) (n := (96 * ((B6 - v_fam.1)))) (by omega) (by omega) ?_
    refine wa_cast (lv' := [(0, .ref (a 0)), (1, .int p0), (2, .int p1)]) (st' := [.int q9.1, .int p1, .int p0, .ref (ru11 0 0), .ref (a_trials 0)]) (by first | rfl | rw [hu 0 (by omega)]) (by first | rfl | rw [hu 0 (by omega)]) ?_
    replace hg6 : ∀ k, k < v_fam.1 → ru11 k = a_fam k := fun k hk => (hu k (by omega)).trans (hg6 k hk)
    replace hm6 : v_fam.1 ≤ q9.2.2.2.2.2.1 := by omega
    replace hb6 : q9.2.2.2.2.2.1 - v_fam.1 ≤ B6 - v_fam.1 := by omega
    obtain ⟨g12, hf⟩ := grd_ex hf
    replace g12 := of_decide_eq_true g12
    refine wa_openF 6 0 g12 List.not_mem_nil rfl ?_
    obtain ⟨q13, hq13, hf⟩ := bind_ex hf
    refine wa_callVi (b1 := 7) (q1 := 0) (ci := 9) (ws' := [wH dT a h_tape h_reader h_friends (a_dusk 0) (ru11 0 0) (a_coming 0) h_acts h_seen h_pairs (a_trials 0) h_imageNow h_imageActs h_imageSeen v, wC dT a_coming (a_dusk 0) (ru11 0 0) (a_known 0) (pim ru11 q9.2.2.2.2.2.2.1) q9.2.1, wD dT a_dusk (a_dpicks 0) (a_dkeeps 0) q13.2.1, wR dT a_dpicks q13.2.2.1, wR dT a_dkeeps q13.2.2.2.1, wK dT a_known v_known, wRm dT q9.2.2.2.2.2.1 [0] ru11 q9.2.2.2.2.2.2.2, wT dT a_trials (a_dusk 0) (a_trial 0) (a_tknown 0) v_trials, wV dT a_trial q13.2.2.2.2, wK dT a_tknown v_tknown, wV dT (ru11 0) (q9.2.2.2.2.2.2.2 0)]) (As := [.ref (ru11 0 0), .int p0, .int p1, .int q9.1]) C 47 dX11_toMeet_44 rfl kv_X11_317 (c_X9_bestMove hq13) ⟨rfl, rfl⟩ ⟨Nat.le_of_ble_eq_true rfl, Nat.le_of_ble_eq_true rfl⟩ rfl rfl rfl [7, 2, 3, 4, 8, 9, 10] [0, 1, 5, 6] [0, 1, 5, 6, 7, 2, 3, 4, 8, 9, 10] rfl rfl rfl rfl (by decide) rfl rfl rfl rfl ⟨by show (8 * ((B6 - v_fam.1))) ≤ 8 * ((B6 - v_fam.1)); omega, by show (96 * ((B6 - v_fam.1))) ≤ 96 * ((B6 - v_fam.1)); omega⟩ (Nat.le_of_ble_eq_true rfl) ?_
    refine wa_closeR (ws := [wH dT a h_tape h_reader h_friends (a_dusk 0) (ru11 0 0) (a_coming 0) h_acts h_seen h_pairs (a_trials 0) h_imageNow h_imageActs h_imageSeen v, wC dT a_coming (a_dusk 0) (ru11 0 0) (a_known 0) (pim ru11 q9.2.2.2.2.2.2.1) q9.2.1, wD dT a_dusk (a_dpicks 0) (a_dkeeps 0) q13.2.1, wR dT a_dpicks q13.2.2.1, wR dT a_dkeeps q13.2.2.2.1, wK dT a_known v_known, wRm dT q9.2.2.2.2.2.1 [0] ru11 q9.2.2.2.2.2.2.2, wT dT a_trials (a_dusk 0) (a_trial 0) (a_tknown 0) v_trials, wV dT a_trial q13.2.2.2.2, wK dT a_tknown v_tknown]) (ws' := [wH dT a h_tape h_reader h_friends (a_dusk 0) (ru11 0 0) (a_coming 0) h_acts h_seen h_pairs (a_trials 0) h_imageNow h_imageActs h_imageSeen v, wC dT a_coming (a_dusk 0) (ru11 0 0) (a_known 0) (pim ru11 q9.2.2.2.2.2.2.1) q9.2.1, wD dT a_dusk (a_dpicks 0) (a_dkeeps 0) q13.2.1, wR dT a_dpicks q13.2.2.1, wR dT a_dkeeps q13.2.2.2.1, wK dT a_known v_known, wRm dT q9.2.2.2.2.2.1 [] ru11 q9.2.2.2.2.2.2.2, wT dT a_trials (a_dusk 0) (a_trial 0) (a_tknown 0) v_trials, wV dT a_trial q13.2.2.2.2, wK dT a_tknown v_tknown]) 6 0 g12 List.not_mem_nil rfl rfl ?_
    refine wa_ws (ws' := [wH dT a h_tape h_reader h_friends (a_dusk 0) (ru11 0 0) (a_coming 0) h_acts h_seen h_pairs (a_trials 0) h_imageNow h_imageActs h_imageSeen v, wC dT a_coming (a_dusk 0) (ru11 0 0) (a_known 0) (pim ru11 q9.2.2.2.2.2.2.1) q9.2.1, wD dT a_dusk (a_dpicks 0) (a_dkeeps 0) q13.2.1, wR dT a_dpicks q13.2.2.1, wR dT a_dkeeps q13.2.2.2.1, wK dT a_known v_known, wRw dT q9.2.2.2.2.2.1 ru11 q9.2.2.2.2.2.2.2, wT dT a_trials (a_dusk 0) (a_trial 0) (a_tknown 0) v_trials, wV dT a_trial q13.2.2.2.2, wK dT a_tknown v_tknown]) rfl ?_
    cases hf
    exact wa_irm C (ru11) dX11_toMeet_47 hg6 rfl rfl (by show (8 * ((B6 - v_fam.1))) ≤ 8 * ((B6 - v_fam.1)); omega) (by show (96 * ((B6 - v_fam.1))) ≤ 96 * ((B6 - v_fam.1)); omega)
  · replace hf := ite_f hf c8
    refine wa_iconst (v := (-1)) C 23 dX11_toMeet_22 rfl rfl ?_
    cases hf
    exact wa_irm C (a_fam) dX11_toMeet_23 hg6 rfl rfl (by show (8 * ((v_fam.1 - v_fam.1))) ≤ 8 * ((B6 - v_fam.1)); omega) (by show (96 * ((v_fam.1 - v_fam.1))) ≤ 96 * ((B6 - v_fam.1)); omega)
theorem kv_X11_321 : KV RX11 321 yX5_many cX5_many 4 (some .int) 1 := KV.mk q1250 q1251 q1252 q11 q1253 ⟨by decide, by decide, by decide +kernel⟩
theorem kv_X11_323 : KV RX11 323 yX5_difference cX5_difference 4 (some .int) 1 := KV.mk q1254 q1255 q1256 q11 q1257 ⟨by decide, by decide, by decide +kernel⟩
def f_X11_partners (v : Ob) (v_fam : FS) (v_pairs : Ob) (p0 : Int32) : Option (Int32) := (f_X11_needWhat p0 (1 : Int32)).bind (fun q1 => (if p0 = 0 then grd (decide (0 < v_fam.1)) ((f_X5_many v_pairs (v_fam.2.2 0)).bind (fun q8 => some (q8))) else grd (decide (0 < v_fam.1)) ((f_X5_difference v_pairs (v_fam.2.2 0)).bind (fun q5 => some (q5)))))
set_option maxRecDepth 20000 in
theorem c_X11_partners {l : Launch} {D : va_G} {dT : Nat → ClassId} {a : Nat → Nat} {a_fam : Nat → Nat → Nat} {a_pairs : Nat → Nat} {h_tape : Nat} {h_reader : Nat} {h_friends : Nat} {h_dusk : Nat} {h_coming : Nat} {h_acts : Nat} {h_seen : Nat} {h_trials : Nat} {h_imageNow : Nat} {h_imageActs : Nat} {h_imageSeen : Nat} {v : Ob} {v_fam : FS} {v_pairs : Ob} {p0 : Int32} {res : Int32} (hf : f_X11_partners v v_fam v_pairs p0 = some res) : CTi l yX11_partners cX11_partners 2 (some .int) ({ frames := 5, cells := 0, slots := 0, locals := 106 } : Room) D dT [.ref (a 0), .int p0] ([wH dT a h_tape h_reader h_friends h_dusk (a_fam 0 0) h_coming h_acts h_seen (a_pairs 0) h_trials h_imageNow h_imageActs h_imageSeen v, wRw dT v_fam.1 a_fam v_fam.2.2, wP dT a_pairs v_pairs]) ([wH dT a h_tape h_reader h_friends h_dusk (a_fam 0 0) h_coming h_acts h_seen (a_pairs 0) h_trials h_imageNow h_imageActs h_imageSeen v, wRw dT v_fam.1 a_fam v_fam.2.2, wP dT a_pairs v_pairs]) res := by
  refine CTi.of (by decide) (Nat.le_of_ble_eq_true rfl) rfl ?_
  intro p e s m args below meth c A C
  unfold f_X11_partners at hf
  refine wa_iload_n C 1 1 dX11_partners_0 rfl rfl ?_
  refine wa_iconst (v := 1) C 2 dX11_partners_1 rfl rfl ?_
  obtain ⟨q1, hq1, hf⟩ := bind_ex hf
  refine wa_callS0v (As := [.int p0, .int (1 : Int32)]) C 5 dX11_partners_2 rfl ks_X11_273 (c_X11_needWhat hq1) ⟨rfl, rfl⟩ ⟨Nat.le_of_ble_eq_true rfl, Nat.le_of_ble_eq_true rfl⟩ rfl rfl ⟨Nat.zero_le _, Nat.zero_le _⟩ (Nat.le_of_ble_eq_true rfl) ?_
  refine wa_iload_n C 1 6 dX11_partners_5 rfl rfl ?_
  refine wa_if_ne C 23 9 dX11_partners_6 rfl rfl (fun c3 => ?_) (fun c3 => ?_)
  · replace hf := ite_f hf c3
    refine wa_aload_n C 0 24 dX11_partners_23 rfl rfl ?_
    refine wa_get C 27 0 0 11 dX11_partners_24 rfl iX11 q368 rfl (Nat.le_of_ble_eq_true rfl) rfl rfl rfl ?_
    refine wa_aload_n C 0 28 dX11_partners_27 rfl rfl ?_
    refine wa_get C 31 0 0 7 dX11_partners_28 rfl iX11 q364 rfl (Nat.le_of_ble_eq_true rfl) rfl rfl rfl ?_
    obtain ⟨g4, hf⟩ := grd_ex hf
    replace g4 := of_decide_eq_true g4
    refine wa_openF 1 0 g4 List.not_mem_nil rfl ?_
    obtain ⟨q5, hq5, hf⟩ := bind_ex hf
    refine wa_callVi (b1 := 2) (q1 := 0) (ci := 5) (ws' := [wH dT a h_tape h_reader h_friends h_dusk (a_fam 0 0) h_coming h_acts h_seen (a_pairs 0) h_trials h_imageNow h_imageActs h_imageSeen v, wRm dT v_fam.1 [0] a_fam v_fam.2.2, wP dT a_pairs v_pairs, wV dT (a_fam 0) (v_fam.2.2 0)]) (As := [.ref (a_fam 0 0)]) C 34 dX11_partners_31 rfl kv_X11_323 (c_X5_difference hq5) ⟨rfl, rfl⟩ ⟨Nat.le_of_ble_eq_true rfl, Nat.le_of_ble_eq_true rfl⟩ rfl rfl rfl [2, 3] [0, 1] [0, 1, 2, 3] rfl rfl rfl rfl (by decide) rfl rfl rfl rfl ⟨Nat.zero_le _, Nat.zero_le _⟩ (Nat.le_of_ble_eq_true rfl) ?_
    refine wa_closeR (ws := [wH dT a h_tape h_reader h_friends h_dusk (a_fam 0 0) h_coming h_acts h_seen (a_pairs 0) h_trials h_imageNow h_imageActs h_imageSeen v, wRm dT v_fam.1 [0] a_fam v_fam.2.2, wP dT a_pairs v_pairs]) (ws' := [wH dT a h_tape h_reader h_friends h_dusk (a_fam 0 0) h_coming h_acts h_seen (a_pairs 0) h_trials h_imageNow h_imageActs h_imageSeen v, wRm dT v_fam.1 [] a_fam v_fam.2.2, wP dT a_pairs v_pairs]) 1 0 g4 List.not_mem_nil rfl rfl ?_
    refine wa_ws (ws' := [wH dT a h_tape h_reader h_friends h_dusk (a_fam 0 0) h_coming h_acts h_seen (a_pairs 0) h_trials h_imageNow h_imageActs h_imageSeen v, wRw dT v_fam.1 a_fam v_fam.2.2, wP dT a_pairs v_pairs]) rfl ?_
    cases hf
    exact wa_iret C dX11_partners_34 rfl rfl
  · replace hf := ite_t hf c3
    refine wa_aload_n C 0 10 dX11_partners_9 rfl rfl ?_
    refine wa_get C 13 0 0 11 dX11_partners_10 rfl iX11 q368 rfl (Nat.le_of_ble_eq_true rfl) rfl rfl rfl ?_
    refine wa_aload_n C 0 14 dX11_partners_13 rfl rfl ?_
    refine wa_get C 17 0 0 7 dX11_partners_14 rfl iX11 q364 rfl (Nat.le_of_ble_eq_true rfl) rfl rfl rfl ?_
    obtain ⟨g7, hf⟩ := grd_ex hf
    replace g7 := of_decide_eq_true g7
    refine wa_openF 1 0 g7 List.not_mem_nil rfl ?_
    obtain ⟨q8, hq8, hf⟩ := bind_ex hf
    refine wa_callVi (b1 := 2) (q1 := 0) (ci := 5) (ws' := [wH dT a h_tape h_reader h_friends h_dusk (a_fam 0 0) h_coming h_acts h_seen (a_pairs 0) h_trials h_imageNow h_imageActs h_imageSeen v, wRm dT v_fam.1 [0] a_fam v_fam.2.2, wP dT a_pairs v_pairs, wV dT (a_fam 0) (v_fam.2.2 0)]) (As := [.ref (a_fam 0 0)]) C 20 dX11_partners_17 rfl kv_X11_321 (c_X5_many hq8) ⟨rfl, rfl⟩ ⟨Nat.le_of_ble_eq_true rfl, Nat.le_of_ble_eq_true rfl⟩ rfl rfl rfl [2, 3] [0, 1] [0, 1, 2, 3] rfl rfl rfl rfl (by decide) rfl rfl rfl rfl ⟨Nat.zero_le _, Nat.zero_le _⟩ (Nat.le_of_ble_eq_true rfl) ?_
    refine wa_closeR (ws := [wH dT a h_tape h_reader h_friends h_dusk (a_fam 0 0) h_coming h_acts h_seen (a_pairs 0) h_trials h_imageNow h_imageActs h_imageSeen v, wRm dT v_fam.1 [0] a_fam v_fam.2.2, wP dT a_pairs v_pairs]) (ws' := [wH dT a h_tape h_reader h_friends h_dusk (a_fam 0 0) h_coming h_acts h_seen (a_pairs 0) h_trials h_imageNow h_imageActs h_imageSeen v, wRm dT v_fam.1 [] a_fam v_fam.2.2, wP dT a_pairs v_pairs]) 1 0 g7 List.not_mem_nil rfl rfl ?_
    refine wa_ws (ws' := [wH dT a h_tape h_reader h_friends h_dusk (a_fam 0 0) h_coming h_acts h_seen (a_pairs 0) h_trials h_imageNow h_imageActs h_imageSeen v, wRw dT v_fam.1 a_fam v_fam.2.2, wP dT a_pairs v_pairs]) rfl ?_
    refine wa_goto C 34 dX11_partners_20 rfl ?_
    cases hf
    exact wa_iret C dX11_partners_34 rfl rfl
theorem kv_X11_326 : KV RX11 326 yX5_firstHalf cX5_firstHalf 6 (some .int) 1 := KV.mk q1265 q1266 q1267 q11 q1268 ⟨by decide, by decide, by decide +kernel⟩
theorem kv_X11_329 : KV RX11 329 yX5_differenceBy cX5_differenceBy 5 (some .int) 2 := KV.mk q1273 q1270 q1271 q11 q1272 ⟨by decide, by decide, by decide +kernel⟩
def f_X11_halves (v : Ob) (v_fam : FS) (v_pairs : Ob) (p0 : Int32) : Option (Int32) := (f_X11_needWhat p0 (1 : Int32)).bind (fun q1 => grd (decide (0 < v_fam.1)) ((f_X5_firstHalf v_pairs (v_fam.2.2 0)).bind (fun q4 => (if p0 = 0 then grd (decide (0 < v_fam.1)) ((f_X5_differenceBy v_pairs (v_fam.2.2 0) q4).bind (fun q8 => some (q8))) else some (q4)))))
set_option maxRecDepth 20000 in
theorem c_X11_halves {l : Launch} {D : va_G} {dT : Nat → ClassId} {a : Nat → Nat} {a_fam : Nat → Nat → Nat} {a_pairs : Nat → Nat} {h_tape : Nat} {h_reader : Nat} {h_friends : Nat} {h_dusk : Nat} {h_coming : Nat} {h_acts : Nat} {h_seen : Nat} {h_trials : Nat} {h_imageNow : Nat} {h_imageActs : Nat} {h_imageSeen : Nat} {v : Ob} {v_fam : FS} {v_pairs : Ob} {p0 : Int32} {res : Int32} (hf : f_X11_halves v v_fam v_pairs p0 = some res) : CTi l yX11_halves cX11_halves 3 (some .int) ({ frames := 5, cells := 0, slots := 0, locals := 109 } : Room) D dT [.ref (a 0), .int p0] ([wH dT a h_tape h_reader h_friends h_dusk (a_fam 0 0) h_coming h_acts h_seen (a_pairs 0) h_trials h_imageNow h_imageActs h_imageSeen v, wRw dT v_fam.1 a_fam v_fam.2.2, wP dT a_pairs v_pairs]) ([wH dT a h_tape h_reader h_friends h_dusk (a_fam 0 0) h_coming h_acts h_seen (a_pairs 0) h_trials h_imageNow h_imageActs h_imageSeen v, wRw dT v_fam.1 a_fam v_fam.2.2, wP dT a_pairs v_pairs]) res := by
  refine CTi.of (by decide) (Nat.le_of_ble_eq_true rfl) rfl ?_
  intro p e s m args below meth c A C
  unfold f_X11_halves at hf
  refine wa_iload_n C 1 1 dX11_halves_0 rfl rfl ?_
  refine wa_iconst (v := 1) C 2 dX11_halves_1 rfl rfl ?_
  obtain ⟨q1, hq1, hf⟩ := bind_ex hf
  refine wa_callS0v (As := [.int p0, .int (1 : Int32)]) C 5 dX11_halves_2 rfl ks_X11_273 (c_X11_needWhat hq1) ⟨rfl, rfl⟩ ⟨Nat.le_of_ble_eq_true rfl, Nat.le_of_ble_eq_true rfl⟩ rfl rfl ⟨Nat.zero_le _, Nat.zero_le _⟩ (Nat.le_of_ble_eq_true rfl) ?_
  refine wa_aload_n C 0 6 dX11_halves_5 rfl rfl ?_
  refine wa_get C 9 0 0 11 dX11_halves_6 rfl iX11 q368 rfl (Nat.le_of_ble_eq_true rfl) rfl rfl rfl ?_
  refine wa_aload_n C 0 10 dX11_halves_9 rfl rfl ?_
  refine wa_get C 13 0 0 7 dX11_halves_10 rfl iX11 q364 rfl (Nat.le_of_ble_eq_true rfl) rfl rfl rfl ?_
  obtain ⟨g3, hf⟩ := grd_ex hf
  replace g3 := of_decide_eq_true g3
  refine wa_openF 1 0 g3 List.not_mem_nil rfl ?_
  obtain ⟨q4, hq4, hf⟩ := bind_ex hf
  refine wa_callVi (b1 := 2) (q1 := 0) (ci := 5) (ws' := [wH dT a h_tape h_reader h_friends h_dusk (a_fam 0 0) h_coming h_acts h_seen (a_pairs 0) h_trials h_imageNow h_imageActs h_imageSeen v, wRm dT v_fam.1 [0] a_fam v_fam.2.2, wP dT a_pairs v_pairs, wV dT (a_fam 0) (v_fam.2.2 0)]) (As := [.ref (a_fam 0 0)]) C 16 dX11_halves_13 rfl kv_X11_326 (c_X5_firstHalf hq4) ⟨rfl, rfl⟩ ⟨Nat.le_of_ble_eq_true rfl, Nat.le_of_ble_eq_true rfl⟩ rfl rfl rfl [2, 3] [0, 1] [0, 1, 2, 3] rfl rfl rfl rfl (by decide) rfl rfl rfl rfl ⟨Nat.zero_le _, Nat.zero_le _⟩ (Nat.le_of_ble_eq_true rfl) ?_
  refine wa_closeR (ws := [wH dT a h_tape h_reader h_friends h_dusk (a_fam 0 0) h_coming h_acts h_seen (a_pairs 0) h_trials h_imageNow h_imageActs h_imageSeen v, wRm dT v_fam.1 [0] a_fam v_fam.2.2, wP dT a_pairs v_pairs]) (ws' := [wH dT a h_tape h_reader h_friends h_dusk (a_fam 0 0) h_coming h_acts h_seen (a_pairs 0) h_trials h_imageNow h_imageActs h_imageSeen v, wRm dT v_fam.1 [] a_fam v_fam.2.2, wP dT a_pairs v_pairs]) 1 0 g3 List.not_mem_nil rfl rfl ?_
  refine wa_ws (ws' := [wH dT a h_tape h_reader h_friends h_dusk (a_fam 0 0) h_coming h_acts h_seen (a_pairs 0) h_trials h_imageNow h_imageActs h_imageSeen v, wRw dT v_fam.1 a_fam v_fam.2.2, wP dT a_pairs v_pairs]) rfl ?_
  refine wa_istore_n (lv' := [(0, .ref (a 0)), (1, .int p0), (2, .int q4)]) C [1, 2, 0] 17 dX11_halves_16 rfl (Nat.le_of_ble_eq_true rfl) rfl ?_
  refine wa_iload_n C 1 18 dX11_halves_17 rfl rfl ?_
  refine wa_if_ne C 36 21 dX11_halves_18 rfl rfl (fun c6 => ?_) (fun c6 => ?_)
  · replace hf := ite_f hf c6
    refine wa_iload_n C 2 37 dX11_halves_36 rfl rfl ?_
    cases hf
    exact wa_iret C dX11_halves_37 rfl rfl
  · replace hf := ite_t hf c6
    refine wa_aload_n C 0 22 dX11_halves_21 rfl rfl ?_
    refine wa_get C 25 0 0 11 dX11_halves_22 rfl iX11 q368 rfl (Nat.le_of_ble_eq_true rfl) rfl rfl rfl ?_
    refine wa_aload_n C 0 26 dX11_halves_25 rfl rfl ?_
    refine wa_get C 29 0 0 7 dX11_halves_26 rfl iX11 q364 rfl (Nat.le_of_ble_eq_true rfl) rfl rfl rfl ?_
    refine wa_iload_n C 2 30 dX11_halves_29 rfl rfl ?_
    obtain ⟨g7, hf⟩ := grd_ex hf
    replace g7 := of_decide_eq_true g7
    refine wa_openF 1 0 g7 List.not_mem_nil rfl ?_
    obtain ⟨q8, hq8, hf⟩ := bind_ex hf
    refine wa_callVi (b1 := 2) (q1 := 0) (ci := 5) (ws' := [wH dT a h_tape h_reader h_friends h_dusk (a_fam 0 0) h_coming h_acts h_seen (a_pairs 0) h_trials h_imageNow h_imageActs h_imageSeen v, wRm dT v_fam.1 [0] a_fam v_fam.2.2, wP dT a_pairs v_pairs, wV dT (a_fam 0) (v_fam.2.2 0)]) (As := [.ref (a_fam 0 0), .int q4]) C 33 dX11_halves_30 rfl kv_X11_329 (c_X5_differenceBy hq8) ⟨rfl, rfl⟩ ⟨Nat.le_of_ble_eq_true rfl, Nat.le_of_ble_eq_true rfl⟩ rfl rfl rfl [2, 3] [0, 1] [0, 1, 2, 3] rfl rfl rfl rfl (by decide) rfl rfl rfl rfl ⟨Nat.zero_le _, Nat.zero_le _⟩ (Nat.le_of_ble_eq_true rfl) ?_
    refine wa_closeR (ws := [wH dT a h_tape h_reader h_friends h_dusk (a_fam 0 0) h_coming h_acts h_seen (a_pairs 0) h_trials h_imageNow h_imageActs h_imageSeen v, wRm dT v_fam.1 [0] a_fam v_fam.2.2, wP dT a_pairs v_pairs]) (ws' := [wH dT a h_tape h_reader h_friends h_dusk (a_fam 0 0) h_coming h_acts h_seen (a_pairs 0) h_trials h_imageNow h_imageActs h_imageSeen v, wRm dT v_fam.1 [] a_fam v_fam.2.2, wP dT a_pairs v_pairs]) 1 0 g7 List.not_mem_nil rfl rfl ?_
    refine wa_ws (ws' := [wH dT a h_tape h_reader h_friends h_dusk (a_fam 0 0) h_coming h_acts h_seen (a_pairs 0) h_trials h_imageNow h_imageActs h_imageSeen v, wRw dT v_fam.1 a_fam v_fam.2.2, wP dT a_pairs v_pairs]) rfl ?_
    refine wa_goto C 37 dX11_halves_33 rfl ?_
    cases hf
    exact wa_iret C dX11_halves_37 rfl rfl
theorem kv_X11_332 : KV RX11 332 yX3_stepsBetween cX3_stepsBetween 5 (some .int) 2 := KV.mk q1281 q1282 q1283 q4 q1284 ⟨by decide, by decide, by decide +kernel⟩
def f_X11_chain (v : Ob) (v_friends : Ob) (v_fam : FS) (p0 : Int32) (p1 : Int32) : Option (Int32) := (f_X11_needPerson v v_fam p0).bind (fun q1 => (f_X11_needPerson v v_fam p1).bind (fun q3 => (f_X3_stepsBetween v_friends p0 p1).bind (fun q5 => some (q5))))
set_option maxRecDepth 20000 in
theorem c_X11_chain {l : Launch} {D : va_G} {dT : Nat → ClassId} {a : Nat → Nat} {a_friends : Nat → Nat} {a_fam : Nat → Nat → Nat} {h_tape : Nat} {h_reader : Nat} {h_dusk : Nat} {h_coming : Nat} {h_acts : Nat} {h_seen : Nat} {h_pairs : Nat} {h_trials : Nat} {h_imageNow : Nat} {h_imageActs : Nat} {h_imageSeen : Nat} {v : Ob} {v_friends : Ob} {v_fam : FS} {p0 : Int32} {p1 : Int32} {res : Int32} (hf : f_X11_chain v v_friends v_fam p0 p1 = some res) : CTi l yX11_chain cX11_chain 3 (some .int) ({ frames := 4, cells := 0, slots := 0, locals := 81 } : Room) D dT [.ref (a 0), .int p0, .int p1] ([wH dT a h_tape h_reader (a_friends 0) h_dusk (a_fam 0 0) h_coming h_acts h_seen h_pairs h_trials h_imageNow h_imageActs h_imageSeen v, wF dT a_friends v_friends, wRw dT v_fam.1 a_fam v_fam.2.2]) ([wH dT a h_tape h_reader (a_friends 0) h_dusk (a_fam 0 0) h_coming h_acts h_seen h_pairs h_trials h_imageNow h_imageActs h_imageSeen v, wF dT a_friends v_friends, wRw dT v_fam.1 a_fam v_fam.2.2]) res := by
  refine CTi.of (by decide) (Nat.le_of_ble_eq_true rfl) rfl ?_
  intro p e s m args below meth c A C
  unfold f_X11_chain at hf
  refine wa_aload_n C 0 1 dX11_chain_0 rfl rfl ?_
  refine wa_iload_n C 1 2 dX11_chain_1 rfl rfl ?_
  obtain ⟨q1, hq1, hf⟩ := bind_ex hf
  refine wa_callVv (b1 := 0) (q1 := 0) (ci := 11) (ws' := [wH dT a h_tape h_reader (a_friends 0) h_dusk (a_fam 0 0) h_coming h_acts h_seen h_pairs h_trials h_imageNow h_imageActs h_imageSeen v, wF dT a_friends v_friends, wRw dT v_fam.1 a_fam v_fam.2.2]) (As := [.int p0]) C 5 dX11_chain_2 rfl kv_X11_193 (c_X11_needPerson hq1) ⟨rfl, rfl⟩ ⟨Nat.le_of_ble_eq_true rfl, Nat.le_of_ble_eq_true rfl⟩ rfl rfl rfl [0, 2] [1] [1, 0, 2] rfl rfl rfl rfl (by decide) rfl rfl rfl rfl ⟨Nat.zero_le _, Nat.zero_le _⟩ (Nat.le_of_ble_eq_true rfl) ?_
  refine wa_aload_n C 0 6 dX11_chain_5 rfl rfl ?_
  refine wa_iload_n C 2 7 dX11_chain_6 rfl rfl ?_
  obtain ⟨q3, hq3, hf⟩ := bind_ex hf
  refine wa_callVv (b1 := 0) (q1 := 0) (ci := 11) (ws' := [wH dT a h_tape h_reader (a_friends 0) h_dusk (a_fam 0 0) h_coming h_acts h_seen h_pairs h_trials h_imageNow h_imageActs h_imageSeen v, wF dT a_friends v_friends, wRw dT v_fam.1 a_fam v_fam.2.2]) (As := [.int p1]) C 10 dX11_chain_7 rfl kv_X11_193 (c_X11_needPerson hq3) ⟨rfl, rfl⟩ ⟨Nat.le_of_ble_eq_true rfl, Nat.le_of_ble_eq_true rfl⟩ rfl rfl rfl [0, 2] [1] [1, 0, 2] rfl rfl rfl rfl (by decide) rfl rfl rfl rfl ⟨Nat.zero_le _, Nat.zero_le _⟩ (Nat.le_of_ble_eq_true rfl) ?_
  refine wa_aload_n C 0 11 dX11_chain_10 rfl rfl ?_
  refine wa_get C 14 0 0 5 dX11_chain_11 rfl iX11 q362 rfl (Nat.le_of_ble_eq_true rfl) rfl rfl rfl ?_
  refine wa_iload_n C 1 15 dX11_chain_14 rfl rfl ?_
  refine wa_iload_n C 2 16 dX11_chain_15 rfl rfl ?_
  obtain ⟨q5, hq5, hf⟩ := bind_ex hf
  refine wa_callVi (b1 := 1) (q1 := 0) (ci := 3) (ws' := [wH dT a h_tape h_reader (a_friends 0) h_dusk (a_fam 0 0) h_coming h_acts h_seen h_pairs h_trials h_imageNow h_imageActs h_imageSeen v, wF dT a_friends v_friends, wRw dT v_fam.1 a_fam v_fam.2.2]) (As := [.int p0, .int p1]) C 19 dX11_chain_16 rfl kv_X11_332 (c_X3_stepsBetween hq5) ⟨rfl, rfl⟩ ⟨Nat.le_of_ble_eq_true rfl, Nat.le_of_ble_eq_true rfl⟩ rfl rfl rfl [1] [0, 2] [0, 2, 1] rfl rfl rfl rfl (by decide) rfl rfl rfl rfl ⟨Nat.zero_le _, Nat.zero_le _⟩ (Nat.le_of_ble_eq_true rfl) ?_
  cases hf
  exact wa_iret C dX11_chain_19 rfl rfl
theorem kv_X11_335 : KV RX11 335 yX8_add cX8_add 4 none 3 := KV.mk q1296 q1297 q1298 q10 q1299 ⟨by decide, by decide, by decide +kernel⟩
def f_X11_see_J38 (z1 : FS) (z0 : Ob) (z2 : Ob) : Option (Int32 × Ob × Ob) := (f_X11_refuse z0 (2 : Int32)).bind (fun q4 => some (q4.1, q4.2, z2))
def f_X11_see (v : Ob) (v_fam : FS) (v_seen : Ob) (p0 : Int32) (p1 : Int32) (p2 : Int32) : Option (Int32 × Ob × Ob) := (f_X11_needPerson v v_fam p0).bind (fun q1 => (if (8 : Int32) ≤ (v_seen.1 0) then f_X11_see_J38 v_fam v v_seen else (if p1 < 0 then f_X11_see_J38 v_fam v v_seen else (if (20 : Int32) < p1 then f_X11_see_J38 v_fam v v_seen else (if p2 < (1 : Int32) then f_X11_see_J38 v_fam v v_seen else (if p2 ≤ (12 : Int32) then (f_X8_add v_seen p0 p1 p2).bind (fun q10 => some ((q10.1 0), v, q10)) else f_X11_see_J38 v_fam v v_seen))))))
set_option maxRecDepth 20000 in
theorem w_X11_see_J38 {p : Program} {l : Launch} {e : Env} {s : State} {m : MethodId} {args : Array Value} {below : List Frame} {meth : Method} {c : Code} {D : va_G} {A : Nat → Prop} {dT : Nat → ClassId} {a : Nat → Nat} {a_fam : Nat → Nat → Nat} {a_seen : Nat → Nat} {h_tape : Nat} {h_reader : Nat} {h_friends : Nat} {h_dusk : Nat} {h_coming : Nat} {h_acts : Nat} {h_pairs : Nat} {h_trials : Nat} {h_imageNow : Nat} {h_imageActs : Nat} {h_imageSeen : Nat} {res : Int32 × Ob × Ob} {z1 : FS} (C : Cx p s m args meth c cX11_see 4 RX11 (some .int) D A dT) : ∀ (z0 : Ob) (z2 : Ob), f_X11_see_J38 z1 z0 z2 = some res → WA p l e ({ frames := 4, cells := 0, slots := 0, locals := 81 } : Room) s m args below meth c (MQ below (QI D dT A ([wH dT a h_tape h_reader h_friends h_dusk (a_fam 0 0) h_coming h_acts (a_seen 0) h_pairs h_trials h_imageNow h_imageActs h_imageSeen res.2.1, wRw dT z1.1 a_fam z1.2.2, wS dT a_seen res.2.2]) res.1) args s 0 0 A) D A 0 0 4 38 ([wH dT a h_tape h_reader h_friends h_dusk (a_fam 0 0) h_coming h_acts (a_seen 0) h_pairs h_trials h_imageNow h_imageActs h_imageSeen z0, wRw dT z1.1 a_fam z1.2.2, wS dT a_seen z2]) [(0, .ref (a 0))] [] := by
  intro z0 z2 hf
  unfold f_X11_see_J38 at hf
  refine wa_aload_n C 0 39 dX11_see_38 rfl rfl ?_
  refine wa_iconst (v := 2) C 40 dX11_see_39 rfl rfl ?_
  obtain ⟨q4, hq4, hf⟩ := bind_ex hf
  refine wa_callVi (b1 := 0) (q1 := 0) (ci := 11) (ws' := [wH dT a h_tape h_reader h_friends h_dusk (a_fam 0 0) h_coming h_acts (a_seen 0) h_pairs h_trials h_imageNow h_imageActs h_imageSeen q4.2, wRw dT z1.1 a_fam z1.2.2, wS dT a_seen z2]) (As := [.int (2 : Int32)]) C 43 dX11_see_40 rfl kv_X11_246 (c_X11_refuse hq4) ⟨rfl, rfl⟩ ⟨Nat.le_of_ble_eq_true rfl, Nat.le_of_ble_eq_true rfl⟩ rfl rfl rfl [0] [1, 2] [2, 0, 1] rfl rfl rfl rfl (by decide) rfl rfl rfl rfl ⟨Nat.zero_le _, Nat.zero_le _⟩ (Nat.le_of_ble_eq_true rfl) ?_
  cases hf
  exact wa_iret C dX11_see_43 rfl rfl
set_option maxRecDepth 20000 in
theorem c_X11_see {l : Launch} {D : va_G} {dT : Nat → ClassId} {a : Nat → Nat} {a_fam : Nat → Nat → Nat} {a_seen : Nat → Nat} {h_tape : Nat} {h_reader : Nat} {h_friends : Nat} {h_dusk : Nat} {h_coming : Nat} {h_acts : Nat} {h_pairs : Nat} {h_trials : Nat} {h_imageNow : Nat} {h_imageActs : Nat} {h_imageSeen : Nat} {v : Ob} {v_fam : FS} {v_seen : Ob} {p0 : Int32} {p1 : Int32} {p2 : Int32} {res : Int32 × Ob × Ob} (hf : f_X11_see v v_fam v_seen p0 p1 p2 = some res) : CTi l yX11_see cX11_see 4 (some .int) ({ frames := 4, cells := 0, slots := 0, locals := 81 } : Room) D dT [.ref (a 0), .int p0, .int p1, .int p2] ([wH dT a h_tape h_reader h_friends h_dusk (a_fam 0 0) h_coming h_acts (a_seen 0) h_pairs h_trials h_imageNow h_imageActs h_imageSeen v, wRw dT v_fam.1 a_fam v_fam.2.2, wS dT a_seen v_seen]) ([wH dT a h_tape h_reader h_friends h_dusk (a_fam 0 0) h_coming h_acts (a_seen 0) h_pairs h_trials h_imageNow h_imageActs h_imageSeen res.2.1, wRw dT v_fam.1 a_fam v_fam.2.2, wS dT a_seen res.2.2]) res.1 := by
  refine CTi.of (by decide) (Nat.le_of_ble_eq_true rfl) rfl ?_
  intro p e s m args below meth c A C
  unfold f_X11_see at hf
  refine wa_aload_n C 0 1 dX11_see_0 rfl rfl ?_
  refine wa_iload_n C 1 2 dX11_see_1 rfl rfl ?_
  obtain ⟨q1, hq1, hf⟩ := bind_ex hf
  refine wa_callVv (b1 := 0) (q1 := 0) (ci := 11) (ws' := [wH dT a h_tape h_reader h_friends h_dusk (a_fam 0 0) h_coming h_acts (a_seen 0) h_pairs h_trials h_imageNow h_imageActs h_imageSeen v, wRw dT v_fam.1 a_fam v_fam.2.2, wS dT a_seen v_seen]) (As := [.int p0]) C 5 dX11_see_2 rfl kv_X11_193 (c_X11_needPerson hq1) ⟨rfl, rfl⟩ ⟨Nat.le_of_ble_eq_true rfl, Nat.le_of_ble_eq_true rfl⟩ rfl rfl rfl [0, 1] [2] [1, 2, 0] rfl rfl rfl rfl (by decide) rfl rfl rfl rfl ⟨Nat.zero_le _, Nat.zero_le _⟩ (Nat.le_of_ble_eq_true rfl) ?_
  refine wa_aload_n C 0 6 dX11_see_5 rfl rfl ?_
  refine wa_get C 9 0 0 10 dX11_see_6 rfl iX11 q367 rfl (Nat.le_of_ble_eq_true rfl) rfl rfl rfl ?_
  refine wa_get C 12 2 0 0 dX11_see_9 rfl iX8 q294 rfl (Nat.le_of_ble_eq_true rfl) rfl rfl rfl ?_
  refine wa_bipush (v := 8) C 14 dX11_see_12 rfl rfl ?_
  refine wa_icmp_ge C 38 17 dX11_see_14 rfl rfl (fun c3 => ?_) (fun c3 => ?_)
  · replace hf := ite_t hf c3
    refine wa_lv (lv' := [(0, .ref (a 0))]) [0] rfl ?_
    exact w_X11_see_J38 C v v_seen hf
  · replace hf := ite_f hf c3
    refine wa_iload_n C 2 18 dX11_see_17 rfl rfl ?_
    refine wa_if_lt C 38 21 dX11_see_18 rfl rfl (fun c6 => ?_) (fun c6 => ?_)
    · replace hf := ite_t hf c6
      refine wa_lv (lv' := [(0, .ref (a 0))]) [0] rfl ?_
      exact w_X11_see_J38 C v v_seen hf
    · replace hf := ite_f hf c6
      refine wa_iload_n C 2 22 dX11_see_21 rfl rfl ?_
      refine wa_bipush (v := 20) C 24 dX11_see_22 rfl rfl ?_
      refine wa_icmp_gt C 38 27 dX11_see_24 rfl rfl (fun c7 => ?_) (fun c7 => ?_)
      · replace hf := ite_t hf c7
        refine wa_lv (lv' := [(0, .ref (a 0))]) [0] rfl ?_
        exact w_X11_see_J38 C v v_seen hf
      · replace hf := ite_f hf c7
        refine wa_iload_n C 3 28 dX11_see_27 rfl rfl ?_
        refine wa_iconst (v := 1) C 29 dX11_see_28 rfl rfl ?_
        refine wa_icmp_lt C 38 32 dX11_see_29 rfl rfl (fun c8 => ?_) (fun c8 => ?_)
        · replace hf := ite_t hf c8
          refine wa_lv (lv' := [(0, .ref (a 0))]) [0] rfl ?_
          exact w_X11_see_J38 C v v_seen hf
        · replace hf := ite_f hf c8
          refine wa_iload_n C 3 33 dX11_see_32 rfl rfl ?_
          refine wa_bipush (v := 12) C 35 dX11_see_33 rfl rfl ?_
          refine wa_icmp_le C 44 38 dX11_see_35 rfl rfl (fun c9 => ?_) (fun c9 => ?_)
          · replace hf := ite_t hf c9
            refine wa_aload_n C 0 45 dX11_see_44 rfl rfl ?_
            refine wa_get C 48 0 0 10 dX11_see_45 rfl iX11 q367 rfl (Nat.le_of_ble_eq_true rfl) rfl rfl rfl ?_
            refine wa_iload_n C 1 49 dX11_see_48 rfl rfl ?_
            refine wa_iload_n C 2 50 dX11_see_49 rfl rfl ?_
            refine wa_iload_n C 3 51 dX11_see_50 rfl rfl ?_
            obtain ⟨q10, hq10, hf⟩ := bind_ex hf
            refine wa_callVv (b1 := 2) (q1 := 0) (ci := 8) (ws' := [wH dT a h_tape h_reader h_friends h_dusk (a_fam 0 0) h_coming h_acts (a_seen 0) h_pairs h_trials h_imageNow h_imageActs h_imageSeen v, wRw dT v_fam.1 a_fam v_fam.2.2, wS dT a_seen q10]) (As := [.int p0, .int p1, .int p2]) C 54 dX11_see_51 rfl kv_X11_335 (c_X8_add hq10) ⟨rfl, rfl⟩ ⟨Nat.le_of_ble_eq_true rfl, Nat.le_of_ble_eq_true rfl⟩ rfl rfl rfl [2] [0, 1] [0, 1, 2] rfl rfl rfl rfl (by decide) rfl rfl rfl rfl ⟨Nat.zero_le _, Nat.zero_le _⟩ (Nat.le_of_ble_eq_true rfl) ?_
            refine wa_aload_n C 0 55 dX11_see_54 rfl rfl ?_
            refine wa_get C 58 0 0 10 dX11_see_55 rfl iX11 q367 rfl (Nat.le_of_ble_eq_true rfl) rfl rfl rfl ?_
            refine wa_get C 61 2 0 0 dX11_see_58 rfl iX8 q294 rfl (Nat.le_of_ble_eq_true rfl) rfl rfl rfl ?_
            cases hf
            exact wa_iret C dX11_see_61 rfl rfl
          · replace hf := ite_f hf c9
            refine wa_lv (lv' := [(0, .ref (a 0))]) [0] rfl ?_
            exact w_X11_see_J38 C v v_seen hf
def f_X11_forget (v : Ob) (v_seen : Ob) : Option (Ob) := bnd (upd v_seen.1 0 (0 : Int32), v_seen.2) (fun y1 => some (y1))
set_option maxRecDepth 20000 in
theorem c_X11_forget {l : Launch} {D : va_G} {dT : Nat → ClassId} {a : Nat → Nat} {a_seen : Nat → Nat} {h_tape : Nat} {h_reader : Nat} {h_friends : Nat} {h_dusk : Nat} {h_now : Nat} {h_coming : Nat} {h_acts : Nat} {h_pairs : Nat} {h_trials : Nat} {h_imageNow : Nat} {h_imageActs : Nat} {h_imageSeen : Nat} {v : Ob} {v_seen : Ob} {res : Ob} (hf : f_X11_forget v v_seen = some res) : CTv l yX11_forget cX11_forget 1 none ({ frames := 0, cells := 0, slots := 0, locals := 0 } : Room) D dT [.ref (a 0)] ([wH dT a h_tape h_reader h_friends h_dusk h_now h_coming h_acts (a_seen 0) h_pairs h_trials h_imageNow h_imageActs h_imageSeen v, wS dT a_seen v_seen]) ([wH dT a h_tape h_reader h_friends h_dusk h_now h_coming h_acts (a_seen 0) h_pairs h_trials h_imageNow h_imageActs h_imageSeen v, wS dT a_seen res]) := by
  refine CTv.of (by decide) (Nat.le_of_ble_eq_true rfl) rfl ?_
  intro p e s m args below meth c A C
  unfold f_X11_forget at hf
  refine wa_aload_n C 0 1 dX11_forget_0 rfl rfl ?_
  refine wa_get C 4 0 0 10 dX11_forget_1 rfl iX11 q367 rfl (Nat.le_of_ble_eq_true rfl) rfl rfl rfl ?_
  refine wa_iconst (v := 0) C 5 dX11_forget_4 rfl rfl ?_
  obtain ⟨y1, ey1, hf⟩ := bnd_ex hf
  refine wa_put (ws' := [wH dT a h_tape h_reader h_friends h_dusk h_now h_coming h_acts (a_seen 0) h_pairs h_trials h_imageNow h_imageActs h_imageSeen v, wS dT a_seen y1]) C 8 1 0 0 tyX8 dX11_forget_5 rfl iX8 tyX8_ok nmX8 q294 rfl (Nat.le_of_ble_eq_true rfl) rfl rfl rfl rfl rfl (Nat.le_of_ble_eq_true rfl) (by rw [ey1]; rfl) ?_
  cases hf
  exact wa_vret C dX11_forget_8 rfl
theorem kv_X11_338 : KV RX11 338 yX9_isSoWithout cX9_isSoWithout 3 (some .boolean) 2 := KV.mk q1307 q1308 q1309 q12 q1310 ⟨by decide, by decide, by decide +kernel⟩
theorem kv_X11_342 : KV RX11 342 yX9_tryRanks cX9_tryRanks 6 none 3 := KV.mk q1324 q1325 q1326 q12 q1327 ⟨by decide, by decide, by decide +kernel⟩
def f_X11_ranked (v : Ob) (v_dusk : Ob) (v_dpicks : Ob) (v_dkeeps : Ob) (v_fam : FS) (v_seen : Ob) (v_trials : Ob) (v_trial : Ob) (v_tknown : Ob) (p0 : Int32) : Option (Int32 × Ob × Ob × Ob × Ob × Ob) := (f_X11_needWhat p0 (2 : Int32)).bind (fun q1 => (if p0 = (2 : Int32) then grd (decide (0 < v_fam.1)) ((f_X9_isSoWithout v_trials v_dusk v_dpicks v_dkeeps v_trial v_tknown (v_fam.2.2 0) v_seen).bind (fun q9 => (if q9.1 = 0 then some ((0 : Int32), q9.2.1, q9.2.2.1, q9.2.2.2.1, v_trials, q9.2.2.2.2) else some ((1 : Int32), q9.2.1, q9.2.2.1, q9.2.2.2.1, v_trials, q9.2.2.2.2)))) else grd (decide (0 < v_fam.1)) ((f_X9_tryRanks v_trials v_dusk v_dpicks v_dkeeps v_trial v_tknown (v_fam.2.2 0) v_seen (0 : Int32)).bind (fun q5 => (if p0 = 0 then some ((q5.1.1 3), q5.2.1, q5.2.2.1, q5.2.2.2.1, q5.1, q5.2.2.2.2) else some ((q5.1.1 4), q5.2.1, q5.2.2.1, q5.2.2.2.1, q5.1, q5.2.2.2.2))))))
set_option maxRecDepth 20000 in
theorem c_X11_ranked {l : Launch} {D : va_G} {dT : Nat → ClassId} {a : Nat → Nat} {a_dusk : Nat → Nat} {a_dpicks : Nat → Nat} {a_dkeeps : Nat → Nat} {a_fam : Nat → Nat → Nat} {a_seen : Nat → Nat} {a_trials : Nat → Nat} {a_trial : Nat → Nat} {a_tknown : Nat → Nat} {h_tape : Nat} {h_reader : Nat} {h_friends : Nat} {h_coming : Nat} {h_acts : Nat} {h_pairs : Nat} {h_imageNow : Nat} {h_imageActs : Nat} {h_imageSeen : Nat} {v : Ob} {v_dusk : Ob} {v_dpicks : Ob} {v_dkeeps : Ob} {v_fam : FS} {v_seen : Ob} {v_trials : Ob} {v_trial : Ob} {v_tknown : Ob} {p0 : Int32} {res : Int32 × Ob × Ob × Ob × Ob × Ob} (hf : f_X11_ranked v v_dusk v_dpicks v_dkeeps v_fam v_seen v_trials v_trial v_tknown p0 = some res) : CTi l yX11_ranked cX11_ranked 2 (some .int) ({ frames := 8, cells := 0, slots := 0, locals := 178 } : Room) D dT [.ref (a 0), .int p0] ([wH dT a h_tape h_reader h_friends (a_dusk 0) (a_fam 0 0) h_coming h_acts (a_seen 0) h_pairs (a_trials 0) h_imageNow h_imageActs h_imageSeen v, wD dT a_dusk (a_dpicks 0) (a_dkeeps 0) v_dusk, wR dT a_dpicks v_dpicks, wR dT a_dkeeps v_dkeeps, wRw dT v_fam.1 a_fam v_fam.2.2, wS dT a_seen v_seen, wT dT a_trials (a_dusk 0) (a_trial 0) (a_tknown 0) v_trials, wV dT a_trial v_trial, wK dT a_tknown v_tknown]) ([wH dT a h_tape h_reader h_friends (a_dusk 0) (a_fam 0 0) h_coming h_acts (a_seen 0) h_pairs (a_trials 0) h_imageNow h_imageActs h_imageSeen v, wD dT a_dusk (a_dpicks 0) (a_dkeeps 0) res.2.1, wR dT a_dpicks res.2.2.1, wR dT a_dkeeps res.2.2.2.1, wRw dT v_fam.1 a_fam v_fam.2.2, wS dT a_seen v_seen, wT dT a_trials (a_dusk 0) (a_trial 0) (a_tknown 0) res.2.2.2.2.1, wV dT a_trial res.2.2.2.2.2, wK dT a_tknown v_tknown]) res.1 := by
  refine CTi.of (by decide) (Nat.le_of_ble_eq_true rfl) rfl ?_
  intro p e s m args below meth c A C
  unfold f_X11_ranked at hf
  refine wa_iload_n C 1 1 dX11_ranked_0 rfl rfl ?_
  refine wa_iconst (v := 2) C 2 dX11_ranked_1 rfl rfl ?_
  obtain ⟨q1, hq1, hf⟩ := bind_ex hf
  refine wa_callS0v (As := [.int p0, .int (2 : Int32)]) C 5 dX11_ranked_2 rfl ks_X11_273 (c_X11_needWhat hq1) ⟨rfl, rfl⟩ ⟨Nat.le_of_ble_eq_true rfl, Nat.le_of_ble_eq_true rfl⟩ rfl rfl ⟨Nat.zero_le _, Nat.zero_le _⟩ (Nat.le_of_ble_eq_true rfl) ?_
  refine wa_iload_n C 1 6 dX11_ranked_5 rfl rfl ?_
  refine wa_iconst (v := 2) C 7 dX11_ranked_6 rfl rfl ?_
  refine wa_icmp_ne C 34 10 dX11_ranked_7 rfl rfl (fun c3 => ?_) (fun c3 => ?_)
  · replace hf := ite_f hf c3
    refine wa_aload_n C 0 35 dX11_ranked_34 rfl rfl ?_
    refine wa_get C 38 0 0 12 dX11_ranked_35 rfl iX11 q369 rfl (Nat.le_of_ble_eq_true rfl) rfl rfl rfl ?_
    refine wa_aload_n C 0 39 dX11_ranked_38 rfl rfl ?_
    refine wa_get C 42 0 0 7 dX11_ranked_39 rfl iX11 q364 rfl (Nat.le_of_ble_eq_true rfl) rfl rfl rfl ?_
    refine wa_aload_n C 0 43 dX11_ranked_42 rfl rfl ?_
    refine wa_get C 46 0 0 10 dX11_ranked_43 rfl iX11 q367 rfl (Nat.le_of_ble_eq_true rfl) rfl rfl rfl ?_
    refine wa_iconst (v := 0) C 47 dX11_ranked_46 rfl rfl ?_
    obtain ⟨g4, hf⟩ := grd_ex hf
    replace g4 := of_decide_eq_true g4
    refine wa_openF 4 0 g4 List.not_mem_nil rfl ?_
    obtain ⟨q5, hq5, hf⟩ := bind_ex hf
    refine wa_callVv (b1 := 6) (q1 := 0) (ci := 9) (ws' := [wH dT a h_tape h_reader h_friends (a_dusk 0) (a_fam 0 0) h_coming h_acts (a_seen 0) h_pairs (a_trials 0) h_imageNow h_imageActs h_imageSeen v, wD dT a_dusk (a_dpicks 0) (a_dkeeps 0) q5.2.1, wR dT a_dpicks q5.2.2.1, wR dT a_dkeeps q5.2.2.2.1, wRm dT v_fam.1 [0] a_fam v_fam.2.2, wS dT a_seen v_seen, wT dT a_trials (a_dusk 0) (a_trial 0) (a_tknown 0) q5.1, wV dT a_trial q5.2.2.2.2, wK dT a_tknown v_tknown, wV dT (a_fam 0) (v_fam.2.2 0)]) (As := [.ref (a_fam 0 0), .ref (a_seen 0), .int (0 : Int32)]) C 50 dX11_ranked_47 rfl kv_X11_342 (c_X9_tryRanks hq5) ⟨rfl, rfl⟩ ⟨Nat.le_of_ble_eq_true rfl, Nat.le_of_ble_eq_true rfl⟩ rfl rfl rfl [6, 1, 2, 3, 7, 8, 9, 5] [0, 4] [0, 3, 4, 5, 1, 9, 2, 6, 7, 8] rfl rfl rfl rfl (by decide) rfl rfl rfl rfl ⟨Nat.zero_le _, Nat.zero_le _⟩ (Nat.le_of_ble_eq_true rfl) ?_
    refine wa_closeR (ws := [wH dT a h_tape h_reader h_friends (a_dusk 0) (a_fam 0 0) h_coming h_acts (a_seen 0) h_pairs (a_trials 0) h_imageNow h_imageActs h_imageSeen v, wD dT a_dusk (a_dpicks 0) (a_dkeeps 0) q5.2.1, wR dT a_dpicks q5.2.2.1, wR dT a_dkeeps q5.2.2.2.1, wRm dT v_fam.1 [0] a_fam v_fam.2.2, wS dT a_seen v_seen, wT dT a_trials (a_dusk 0) (a_trial 0) (a_tknown 0) q5.1, wV dT a_trial q5.2.2.2.2, wK dT a_tknown v_tknown]) (ws' := [wH dT a h_tape h_reader h_friends (a_dusk 0) (a_fam 0 0) h_coming h_acts (a_seen 0) h_pairs (a_trials 0) h_imageNow h_imageActs h_imageSeen v, wD dT a_dusk (a_dpicks 0) (a_dkeeps 0) q5.2.1, wR dT a_dpicks q5.2.2.1, wR dT a_dkeeps q5.2.2.2.1, wRm dT v_fam.1 [] a_fam v_fam.2.2, wS dT a_seen v_seen, wT dT a_trials (a_dusk 0) (a_trial 0) (a_tknown 0) q5.1, wV dT a_trial q5.2.2.2.2, wK dT a_tknown v_tknown]) 4 0 g4 List.not_mem_nil rfl rfl ?_
    refine wa_ws (ws' := [wH dT a h_tape h_reader h_friends (a_dusk 0) (a_fam 0 0) h_coming h_acts (a_seen 0) h_pairs (a_trials 0) h_imageNow h_imageActs h_imageSeen v, wD dT a_dusk (a_dpicks 0) (a_dkeeps 0) q5.2.1, wR dT a_dpicks q5.2.2.1, wR dT a_dkeeps q5.2.2.2.1, wRw dT v_fam.1 a_fam v_fam.2.2, wS dT a_seen v_seen, wT dT a_trials (a_dusk 0) (a_trial 0) (a_tknown 0) q5.1, wV dT a_trial q5.2.2.2.2, wK dT a_tknown v_tknown]) rfl ?_
    refine wa_iload_n C 1 51 dX11_ranked_50 rfl rfl ?_
    refine wa_if_ne C 64 54 dX11_ranked_51 rfl rfl (fun c7 => ?_) (fun c7 => ?_)
    · replace hf := ite_f hf c7
      refine wa_aload_n C 0 65 dX11_ranked_64 rfl rfl ?_
      refine wa_get C 68 0 0 12 dX11_ranked_65 rfl iX11 q369 rfl (Nat.le_of_ble_eq_true rfl) rfl rfl rfl ?_
      refine wa_get C 71 6 0 4 dX11_ranked_68 rfl iX9 q333 rfl (Nat.le_of_ble_eq_true rfl) rfl rfl rfl ?_
      cases hf
      exact wa_iret C dX11_ranked_71 rfl rfl
    · replace hf := ite_t hf c7
      refine wa_aload_n C 0 55 dX11_ranked_54 rfl rfl ?_
      refine wa_get C 58 0 0 12 dX11_ranked_55 rfl iX11 q369 rfl (Nat.le_of_ble_eq_true rfl) rfl rfl rfl ?_
      refine wa_get C 61 6 0 3 dX11_ranked_58 rfl iX9 q331 rfl (Nat.le_of_ble_eq_true rfl) rfl rfl rfl ?_
      refine wa_goto C 71 dX11_ranked_61 rfl ?_
      cases hf
      exact wa_iret C dX11_ranked_71 rfl rfl
  · replace hf := ite_t hf c3
    refine wa_aload_n C 0 11 dX11_ranked_10 rfl rfl ?_
    refine wa_get C 14 0 0 12 dX11_ranked_11 rfl iX11 q369 rfl (Nat.le_of_ble_eq_true rfl) rfl rfl rfl ?_
    refine wa_aload_n C 0 15 dX11_ranked_14 rfl rfl ?_
    refine wa_get C 18 0 0 7 dX11_ranked_15 rfl iX11 q364 rfl (Nat.le_of_ble_eq_true rfl) rfl rfl rfl ?_
    refine wa_aload_n C 0 19 dX11_ranked_18 rfl rfl ?_
    refine wa_get C 22 0 0 10 dX11_ranked_19 rfl iX11 q367 rfl (Nat.le_of_ble_eq_true rfl) rfl rfl rfl ?_
    obtain ⟨g8, hf⟩ := grd_ex hf
    replace g8 := of_decide_eq_true g8
    refine wa_openF 4 0 g8 List.not_mem_nil rfl ?_
    obtain ⟨q9, hq9, hf⟩ := bind_ex hf
    refine wa_callVi (b1 := 6) (q1 := 0) (ci := 9) (ws' := [wH dT a h_tape h_reader h_friends (a_dusk 0) (a_fam 0 0) h_coming h_acts (a_seen 0) h_pairs (a_trials 0) h_imageNow h_imageActs h_imageSeen v, wD dT a_dusk (a_dpicks 0) (a_dkeeps 0) q9.2.1, wR dT a_dpicks q9.2.2.1, wR dT a_dkeeps q9.2.2.2.1, wRm dT v_fam.1 [0] a_fam v_fam.2.2, wS dT a_seen v_seen, wT dT a_trials (a_dusk 0) (a_trial 0) (a_tknown 0) v_trials, wV dT a_trial q9.2.2.2.2, wK dT a_tknown v_tknown, wV dT (a_fam 0) (v_fam.2.2 0)]) (As := [.ref (a_fam 0 0), .ref (a_seen 0)]) C 25 dX11_ranked_22 rfl kv_X11_338 (c_X9_isSoWithout hq9) ⟨rfl, rfl⟩ ⟨Nat.le_of_ble_eq_true rfl, Nat.le_of_ble_eq_true rfl⟩ rfl rfl rfl [6, 1, 2, 3, 7, 8, 9, 5] [0, 4] [0, 3, 4, 5, 1, 9, 2, 6, 7, 8] rfl rfl rfl rfl (by decide) rfl rfl rfl rfl ⟨Nat.zero_le _, Nat.zero_le _⟩ (Nat.le_of_ble_eq_true rfl) ?_
    refine wa_closeR (ws := [wH dT a h_tape h_reader h_friends (a_dusk 0) (a_fam 0 0) h_coming h_acts (a_seen 0) h_pairs (a_trials 0) h_imageNow h_imageActs h_imageSeen v, wD dT a_dusk (a_dpicks 0) (a_dkeeps 0) q9.2.1, wR dT a_dpicks q9.2.2.1, wR dT a_dkeeps q9.2.2.2.1, wRm dT v_fam.1 [0] a_fam v_fam.2.2, wS dT a_seen v_seen, wT dT a_trials (a_dusk 0) (a_trial 0) (a_tknown 0) v_trials, wV dT a_trial q9.2.2.2.2, wK dT a_tknown v_tknown]) (ws' := [wH dT a h_tape h_reader h_friends (a_dusk 0) (a_fam 0 0) h_coming h_acts (a_seen 0) h_pairs (a_trials 0) h_imageNow h_imageActs h_imageSeen v, wD dT a_dusk (a_dpicks 0) (a_dkeeps 0) q9.2.1, wR dT a_dpicks q9.2.2.1, wR dT a_dkeeps q9.2.2.2.1, wRm dT v_fam.1 [] a_fam v_fam.2.2, wS dT a_seen v_seen, wT dT a_trials (a_dusk 0) (a_trial 0) (a_tknown 0) v_trials, wV dT a_trial q9.2.2.2.2, wK dT a_tknown v_tknown]) 4 0 g8 List.not_mem_nil rfl rfl ?_
    refine wa_ws (ws' := [wH dT a h_tape h_reader h_friends (a_dusk 0) (a_fam 0 0) h_coming h_acts (a_seen 0) h_pairs (a_trials 0) h_imageNow h_imageActs h_imageSeen v, wD dT a_dusk (a_dpicks 0) (a_dkeeps 0) q9.2.1, wR dT a_dpicks q9.2.2.1, wR dT a_dkeeps q9.2.2.2.1, wRw dT v_fam.1 a_fam v_fam.2.2, wS dT a_seen v_seen, wT dT a_trials (a_dusk 0) (a_trial 0) (a_tknown 0) v_trials, wV dT a_trial q9.2.2.2.2, wK dT a_tknown v_tknown]) rfl ?_
    refine wa_if_eq C 32 28 dX11_ranked_25 rfl rfl (fun c11 => ?_) (fun c11 => ?_)
    · replace hf := ite_t hf c11
      refine wa_iconst (v := 0) C 33 dX11_ranked_32 rfl rfl ?_
      cases hf
      exact wa_iret C dX11_ranked_33 rfl rfl
    · replace hf := ite_f hf c11
      refine wa_iconst (v := 1) C 29 dX11_ranked_28 rfl rfl ?_
      refine wa_goto C 33 dX11_ranked_29 rfl ?_
      cases hf
      exact wa_iret C dX11_ranked_33 rfl rfl
theorem kv_X11_352 : KV RX11 352 yX9_mostUnlike cX9_mostUnlike 5 (some .int) 1 := KV.mk q1344 q1345 q1346 q12 q1347 ⟨by decide, by decide, by decide +kernel⟩
theorem kv_X11_355 : KV RX11 355 yX9_unlikeSizes cX9_unlikeSizes 2 (some .int) 1 := KV.mk q1353 q1349 q1350 q12 q1351 ⟨by decide, by decide, by decide +kernel⟩
def f_X11_look (v : Ob) (v_dusk : Ob) (v_dpicks : Ob) (v_dkeeps : Ob) (v_fam : FS) (v_seen : Ob) (v_trials : Ob) (v_trial : Ob) (v_tknown : Ob) (p0 : Int32) : Option (Int32 × Ob × Ob × Ob × Ob × Ob) := (f_X11_needWhat p0 (1 : Int32)).bind (fun q1 => grd (decide (0 < v_fam.1)) ((f_X9_tryRanks v_trials v_dusk v_dpicks v_dkeeps v_trial v_tknown (v_fam.2.2 0) v_seen (1 : Int32)).bind (fun q4 => grd (decide (0 < v_fam.1)) ((f_X9_mostUnlike q4.1 q4.2.1 q4.2.2.1 q4.2.2.2.1 q4.2.2.2.2 v_tknown ((v_fam.2.2 0).1 0)).bind (fun q7 => (if p0 = 0 then some (q7, q4.2.1, q4.2.2.1, q4.2.2.2.1, q4.1, q4.2.2.2.2) else (if q7 = (-1 : Int32) then some ((0 : Int32), q4.2.1, q4.2.2.1, q4.2.2.2.1, q4.1, q4.2.2.2.2) else (f_X9_unlikeSizes q4.1 q4.2.1 q4.2.2.1 q4.2.2.2.1 q4.2.2.2.2 v_tknown q7).bind (fun q11 => some (q11, q4.2.1, q4.2.2.1, q4.2.2.2.1, q4.1, q4.2.2.2.2)))))))))
set_option maxRecDepth 20000 in
theorem c_X11_look {l : Launch} {D : va_G} {dT : Nat → ClassId} {a : Nat → Nat} {a_dusk : Nat → Nat} {a_dpicks : Nat → Nat} {a_dkeeps : Nat → Nat} {a_fam : Nat → Nat → Nat} {a_seen : Nat → Nat} {a_trials : Nat → Nat} {a_trial : Nat → Nat} {a_tknown : Nat → Nat} {h_tape : Nat} {h_reader : Nat} {h_friends : Nat} {h_coming : Nat} {h_acts : Nat} {h_pairs : Nat} {h_imageNow : Nat} {h_imageActs : Nat} {h_imageSeen : Nat} {v : Ob} {v_dusk : Ob} {v_dpicks : Ob} {v_dkeeps : Ob} {v_fam : FS} {v_seen : Ob} {v_trials : Ob} {v_trial : Ob} {v_tknown : Ob} {p0 : Int32} {res : Int32 × Ob × Ob × Ob × Ob × Ob} (hf : f_X11_look v v_dusk v_dpicks v_dkeeps v_fam v_seen v_trials v_trial v_tknown p0 = some res) : CTi l yX11_look cX11_look 3 (some .int) ({ frames := 8, cells := 0, slots := 0, locals := 178 } : Room) D dT [.ref (a 0), .int p0] ([wH dT a h_tape h_reader h_friends (a_dusk 0) (a_fam 0 0) h_coming h_acts (a_seen 0) h_pairs (a_trials 0) h_imageNow h_imageActs h_imageSeen v, wD dT a_dusk (a_dpicks 0) (a_dkeeps 0) v_dusk, wR dT a_dpicks v_dpicks, wR dT a_dkeeps v_dkeeps, wRw dT v_fam.1 a_fam v_fam.2.2, wS dT a_seen v_seen, wT dT a_trials (a_dusk 0) (a_trial 0) (a_tknown 0) v_trials, wV dT a_trial v_trial, wK dT a_tknown v_tknown]) ([wH dT a h_tape h_reader h_friends (a_dusk 0) (a_fam 0 0) h_coming h_acts (a_seen 0) h_pairs (a_trials 0) h_imageNow h_imageActs h_imageSeen v, wD dT a_dusk (a_dpicks 0) (a_dkeeps 0) res.2.1, wR dT a_dpicks res.2.2.1, wR dT a_dkeeps res.2.2.2.1, wRw dT v_fam.1 a_fam v_fam.2.2, wS dT a_seen v_seen, wT dT a_trials (a_dusk 0) (a_trial 0) (a_tknown 0) res.2.2.2.2.1, wV dT a_trial res.2.2.2.2.2, wK dT a_tknown v_tknown]) res.1 := by
  refine CTi.of (by decide) (Nat.le_of_ble_eq_true rfl) rfl ?_
  intro p e s m args below meth c A C
  unfold f_X11_look at hf
  refine wa_iload_n C 1 1 dX11_look_0 rfl rfl ?_
  refine wa_iconst (v := 1) C 2 dX11_look_1 rfl rfl ?_
  obtain ⟨q1, hq1, hf⟩ := bind_ex hf
  refine wa_callS0v (As := [.int p0, .int (1 : Int32)]) C 5 dX11_look_2 rfl ks_X11_273 (c_X11_needWhat hq1) ⟨rfl, rfl⟩ ⟨Nat.le_of_ble_eq_true rfl, Nat.le_of_ble_eq_true rfl⟩ rfl rfl ⟨Nat.zero_le _, Nat.zero_le _⟩ (Nat.le_of_ble_eq_true rfl) ?_
  refine wa_aload_n C 0 6 dX11_look_5 rfl rfl ?_
  refine wa_get C 9 0 0 12 dX11_look_6 rfl iX11 q369 rfl (Nat.le_of_ble_eq_true rfl) rfl rfl rfl ?_
  refine wa_aload_n C 0 10 dX11_look_9 rfl rfl ?_
  refine wa_get C 13 0 0 7 dX11_look_10 rfl iX11 q364 rfl (Nat.le_of_ble_eq_true rfl) rfl rfl rfl ?_
  refine wa_aload_n C 0 14 dX11_look_13 rfl rfl ?_
  refine wa_get C 17 0 0 10 dX11_look_14 rfl iX11 q367 rfl (Nat.le_of_ble_eq_true rfl) rfl rfl rfl ?_
  refine wa_iconst (v := 1) C 18 dX11_look_17 rfl rfl ?_
  obtain ⟨g3, hf⟩ := grd_ex hf
  replace g3 := of_decide_eq_true g3
  refine wa_openF 4 0 g3 List.not_mem_nil rfl ?_
  obtain ⟨q4, hq4, hf⟩ := bind_ex hf
  refine wa_callVv (b1 := 6) (q1 := 0) (ci := 9) (ws' := [wH dT a h_tape h_reader h_friends (a_dusk 0) (a_fam 0 0) h_coming h_acts (a_seen 0) h_pairs (a_trials 0) h_imageNow h_imageActs h_imageSeen v, wD dT a_dusk (a_dpicks 0) (a_dkeeps 0) q4.2.1, wR dT a_dpicks q4.2.2.1, wR dT a_dkeeps q4.2.2.2.1, wRm dT v_fam.1 [0] a_fam v_fam.2.2, wS dT a_seen v_seen, wT dT a_trials (a_dusk 0) (a_trial 0) (a_tknown 0) q4.1, wV dT a_trial q4.2.2.2.2, wK dT a_tknown v_tknown, wV dT (a_fam 0) (v_fam.2.2 0)]) (As := [.ref (a_fam 0 0), .ref (a_seen 0), .int (1 : Int32)]) C 21 dX11_look_18 rfl kv_X11_342 (c_X9_tryRanks hq4) ⟨rfl, rfl⟩ ⟨Nat.le_of_ble_eq_true rfl, Nat.le_of_ble_eq_true rfl⟩ rfl rfl rfl [6, 1, 2, 3, 7, 8, 9, 5] [0, 4] [0, 3, 4, 5, 1, 9, 2, 6, 7, 8] rfl rfl rfl rfl (by decide) rfl rfl rfl rfl ⟨Nat.zero_le _, Nat.zero_le _⟩ (Nat.le_of_ble_eq_true rfl) ?_
  refine wa_closeR (ws := [wH dT a h_tape h_reader h_friends (a_dusk 0) (a_fam 0 0) h_coming h_acts (a_seen 0) h_pairs (a_trials 0) h_imageNow h_imageActs h_imageSeen v, wD dT a_dusk (a_dpicks 0) (a_dkeeps 0) q4.2.1, wR dT a_dpicks q4.2.2.1, wR dT a_dkeeps q4.2.2.2.1, wRm dT v_fam.1 [0] a_fam v_fam.2.2, wS dT a_seen v_seen, wT dT a_trials (a_dusk 0) (a_trial 0) (a_tknown 0) q4.1, wV dT a_trial q4.2.2.2.2, wK dT a_tknown v_tknown]) (ws' := [wH dT a h_tape h_reader h_friends (a_dusk 0) (a_fam 0 0) h_coming h_acts (a_seen 0) h_pairs (a_trials 0) h_imageNow h_imageActs h_imageSeen v, wD dT a_dusk (a_dpicks 0) (a_dkeeps 0) q4.2.1, wR dT a_dpicks q4.2.2.1, wR dT a_dkeeps q4.2.2.2.1, wRm dT v_fam.1 [] a_fam v_fam.2.2, wS dT a_seen v_seen, wT dT a_trials (a_dusk 0) (a_trial 0) (a_tknown 0) q4.1, wV dT a_trial q4.2.2.2.2, wK dT a_tknown v_tknown]) 4 0 g3 List.not_mem_nil rfl rfl ?_
  refine wa_ws (ws' := [wH dT a h_tape h_reader h_friends (a_dusk 0) (a_fam 0 0) h_coming h_acts (a_seen 0) h_pairs (a_trials 0) h_imageNow h_imageActs h_imageSeen v, wD dT a_dusk (a_dpicks 0) (a_dkeeps 0) q4.2.1, wR dT a_dpicks q4.2.2.1, wR dT a_dkeeps q4.2.2.2.1, wRw dT v_fam.1 a_fam v_fam.2.2, wS dT a_seen v_seen, wT dT a_trials (a_dusk 0) (a_trial 0) (a_tknown 0) q4.1, wV dT a_trial q4.2.2.2.2, wK dT a_tknown v_tknown]) rfl ?_
  refine wa_aload_n C 0 22 dX11_look_21 rfl rfl ?_
  refine wa_get C 25 0 0 12 dX11_look_22 rfl iX11 q369 rfl (Nat.le_of_ble_eq_true rfl) rfl rfl rfl ?_
  refine wa_aload_n C 0 26 dX11_look_25 rfl rfl ?_
  refine wa_get C 29 0 0 7 dX11_look_26 rfl iX11 q364 rfl (Nat.le_of_ble_eq_true rfl) rfl rfl rfl ?_
  obtain ⟨g6, hf⟩ := grd_ex hf
  refine wa_openF 4 0 (of_decide_eq_true g6) List.not_mem_nil rfl ?_
  refine wa_get C 32 9 0 0 dX11_look_29 rfl iX10 q53 rfl (Nat.le_of_ble_eq_true rfl) rfl rfl rfl ?_
  refine wa_closeR (ws := [wH dT a h_tape h_reader h_friends (a_dusk 0) (a_fam 0 0) h_coming h_acts (a_seen 0) h_pairs (a_trials 0) h_imageNow h_imageActs h_imageSeen v, wD dT a_dusk (a_dpicks 0) (a_dkeeps 0) q4.2.1, wR dT a_dpicks q4.2.2.1, wR dT a_dkeeps q4.2.2.2.1, wRm dT v_fam.1 [0] a_fam v_fam.2.2, wS dT a_seen v_seen, wT dT a_trials (a_dusk 0) (a_trial 0) (a_tknown 0) q4.1, wV dT a_trial q4.2.2.2.2, wK dT a_tknown v_tknown]) (ws' := [wH dT a h_tape h_reader h_friends (a_dusk 0) (a_fam 0 0) h_coming h_acts (a_seen 0) h_pairs (a_trials 0) h_imageNow h_imageActs h_imageSeen v, wD dT a_dusk (a_dpicks 0) (a_dkeeps 0) q4.2.1, wR dT a_dpicks q4.2.2.1, wR dT a_dkeeps q4.2.2.2.1, wRw dT v_fam.1 a_fam v_fam.2.2, wS dT a_seen v_seen, wT dT a_trials (a_dusk 0) (a_trial 0) (a_tknown 0) q4.1, wV dT a_trial q4.2.2.2.2, wK dT a_tknown v_tknown]) 4 0 (of_decide_eq_true g6) List.not_mem_nil rfl rfl ?_
  obtain ⟨q7, hq7, hf⟩ := bind_ex hf
  refine wa_callVi (b1 := 6) (q1 := 0) (ci := 9) (ws' := [wH dT a h_tape h_reader h_friends (a_dusk 0) (a_fam 0 0) h_coming h_acts (a_seen 0) h_pairs (a_trials 0) h_imageNow h_imageActs h_imageSeen v, wD dT a_dusk (a_dpicks 0) (a_dkeeps 0) q4.2.1, wR dT a_dpicks q4.2.2.1, wR dT a_dkeeps q4.2.2.2.1, wRw dT v_fam.1 a_fam v_fam.2.2, wS dT a_seen v_seen, wT dT a_trials (a_dusk 0) (a_trial 0) (a_tknown 0) q4.1, wV dT a_trial q4.2.2.2.2, wK dT a_tknown v_tknown]) (As := [.int ((v_fam.2.2 0).1 0)]) C 35 dX11_look_32 rfl kv_X11_352 (c_X9_mostUnlike hq7) ⟨rfl, rfl⟩ ⟨Nat.le_of_ble_eq_true rfl, Nat.le_of_ble_eq_true rfl⟩ rfl rfl rfl [6, 1, 2, 3, 7, 8] [0, 4, 5] [0, 4, 5, 6, 1, 2, 3, 7, 8] rfl rfl rfl rfl (by decide) rfl rfl rfl rfl ⟨Nat.zero_le _, Nat.zero_le _⟩ (Nat.le_of_ble_eq_true rfl) ?_
  refine wa_istore_n (lv' := [(0, .ref (a 0)), (1, .int p0), (2, .int q7)]) C [1, 2, 0] 36 dX11_look_35 rfl (Nat.le_of_ble_eq_true rfl) rfl ?_
  refine wa_iload_n C 1 37 dX11_look_36 rfl rfl ?_
  refine wa_if_ne C 42 40 dX11_look_37 rfl rfl (fun c9 => ?_) (fun c9 => ?_)
  · replace hf := ite_f hf c9
    refine wa_iload_n C 2 43 dX11_look_42 rfl rfl ?_
    refine wa_iconst (v := (-1)) C 44 dX11_look_43 rfl rfl ?_
    refine wa_icmp_ne C 51 47 dX11_look_44 rfl rfl (fun c10 => ?_) (fun c10 => ?_)
    · replace hf := ite_f hf c10
      refine wa_aload_n C 0 52 dX11_look_51 rfl rfl ?_
      refine wa_get C 55 0 0 12 dX11_look_52 rfl iX11 q369 rfl (Nat.le_of_ble_eq_true rfl) rfl rfl rfl ?_
      refine wa_iload_n C 2 56 dX11_look_55 rfl rfl ?_
      obtain ⟨q11, hq11, hf⟩ := bind_ex hf
      refine wa_callVi (b1 := 6) (q1 := 0) (ci := 9) (ws' := [wH dT a h_tape h_reader h_friends (a_dusk 0) (a_fam 0 0) h_coming h_acts (a_seen 0) h_pairs (a_trials 0) h_imageNow h_imageActs h_imageSeen v, wD dT a_dusk (a_dpicks 0) (a_dkeeps 0) q4.2.1, wR dT a_dpicks q4.2.2.1, wR dT a_dkeeps q4.2.2.2.1, wRw dT v_fam.1 a_fam v_fam.2.2, wS dT a_seen v_seen, wT dT a_trials (a_dusk 0) (a_trial 0) (a_tknown 0) q4.1, wV dT a_trial q4.2.2.2.2, wK dT a_tknown v_tknown]) (As := [.int q7]) C 59 dX11_look_56 rfl kv_X11_355 (c_X9_unlikeSizes hq11) ⟨rfl, rfl⟩ ⟨Nat.le_of_ble_eq_true rfl, Nat.le_of_ble_eq_true rfl⟩ rfl rfl rfl [6, 1, 2, 3, 7, 8] [0, 4, 5] [0, 4, 5, 6, 1, 2, 3, 7, 8] rfl rfl rfl rfl (by decide) rfl rfl rfl rfl ⟨Nat.zero_le _, Nat.zero_le _⟩ (Nat.le_of_ble_eq_true rfl) ?_
      cases hf
      exact wa_iret C dX11_look_59 rfl rfl
    · replace hf := ite_t hf c10
      refine wa_iconst (v := 0) C 48 dX11_look_47 rfl rfl ?_
      refine wa_goto C 59 dX11_look_48 rfl ?_
      cases hf
      exact wa_iret C dX11_look_59 rfl rfl
  · replace hf := ite_t hf c9
    refine wa_iload_n C 2 41 dX11_look_40 rfl rfl ?_
    cases hf
    exact wa_iret C dX11_look_41 rfl rfl
theorem kv_X11_358 : KV RX11 358 yX9_byStorms cX9_byStorms 10 (some .int) 5 := KV.mk q1361 q1362 q1363 q12 q1364 ⟨by decide, by decide, by decide +kernel⟩
def f_X11_storms (v : Ob) (v_dusk : Ob) (v_dpicks : Ob) (v_dkeeps : Ob) (v_fam : FS) (v_trials : Ob) (v_trial : Ob) (v_tknown : Ob) (p0 : Int32) (p1 : Int32) (p2 : Int32) (p3 : Int32) : Option (Int32 × Ob × Ob × Ob × Ob) := (f_X11_needPerson v v_fam p0).bind (fun q1 => (f_X11_needPerson v v_fam p1).bind (fun q3 => (f_X11_needWithin p2 (1 : Int32) (5 : Int32)).bind (fun q5 => (f_X11_needWithin p3 (0 : Int32) (10 : Int32)).bind (fun q7 => grd (decide (0 < v_fam.1)) ((f_X9_byStorms v_trials v_dusk v_dpicks v_dkeeps v_trial v_tknown (v_fam.2.2 0) p0 p1 p2 p3).bind (fun q10 => some (q10.1, q10.2.1, q10.2.2.1, q10.2.2.2.1, q10.2.2.2.2)))))))
set_option maxRecDepth 20000 in
theorem c_X11_storms {l : Launch} {D : va_G} {dT : Nat → ClassId} {a : Nat → Nat} {a_dusk : Nat → Nat} {a_dpicks : Nat → Nat} {a_dkeeps : Nat → Nat} {a_fam : Nat → Nat → Nat} {a_trials : Nat → Nat} {a_trial : Nat → Nat} {a_tknown : Nat → Nat} {h_tape : Nat} {h_reader : Nat} {h_friends : Nat} {h_coming : Nat} {h_acts : Nat} {h_seen : Nat} {h_pairs : Nat} {h_imageNow : Nat} {h_imageActs : Nat} {h_imageSeen : Nat} {v : Ob} {v_dusk : Ob} {v_dpicks : Ob} {v_dkeeps : Ob} {v_fam : FS} {v_trials : Ob} {v_trial : Ob} {v_tknown : Ob} {p0 : Int32} {p1 : Int32} {p2 : Int32} {p3 : Int32} {res : Int32 × Ob × Ob × Ob × Ob} (hf : f_X11_storms v v_dusk v_dpicks v_dkeeps v_fam v_trials v_trial v_tknown p0 p1 p2 p3 = some res) : CTi l yX11_storms cX11_storms 5 (some .int) ({ frames := 7, cells := 0, slots := 0, locals := 159 } : Room) D dT [.ref (a 0), .int p0, .int p1, .int p2, .int p3] ([wH dT a h_tape h_reader h_friends (a_dusk 0) (a_fam 0 0) h_coming h_acts h_seen h_pairs (a_trials 0) h_imageNow h_imageActs h_imageSeen v, wD dT a_dusk (a_dpicks 0) (a_dkeeps 0) v_dusk, wR dT a_dpicks v_dpicks, wR dT a_dkeeps v_dkeeps, wRw dT v_fam.1 a_fam v_fam.2.2, wT dT a_trials (a_dusk 0) (a_trial 0) (a_tknown 0) v_trials, wV dT a_trial v_trial, wK dT a_tknown v_tknown]) ([wH dT a h_tape h_reader h_friends (a_dusk 0) (a_fam 0 0) h_coming h_acts h_seen h_pairs (a_trials 0) h_imageNow h_imageActs h_imageSeen v, wD dT a_dusk (a_dpicks 0) (a_dkeeps 0) res.2.1, wR dT a_dpicks res.2.2.1, wR dT a_dkeeps res.2.2.2.1, wRw dT v_fam.1 a_fam v_fam.2.2, wT dT a_trials (a_dusk 0) (a_trial 0) (a_tknown 0) v_trials, wV dT a_trial res.2.2.2.2, wK dT a_tknown v_tknown]) res.1 := by
  refine CTi.of (by decide) (Nat.le_of_ble_eq_true rfl) rfl ?_
  intro p e s m args below meth c A C
  unfold f_X11_storms at hf
  refine wa_aload_n C 0 1 dX11_storms_0 rfl rfl ?_
  refine wa_iload_n C 1 2 dX11_storms_1 rfl rfl ?_
  obtain ⟨q1, hq1, hf⟩ := bind_ex hf
  refine wa_callVv (b1 := 0) (q1 := 0) (ci := 11) (ws' := [wH dT a h_tape h_reader h_friends (a_dusk 0) (a_fam 0 0) h_coming h_acts h_seen h_pairs (a_trials 0) h_imageNow h_imageActs h_imageSeen v, wD dT a_dusk (a_dpicks 0) (a_dkeeps 0) v_dusk, wR dT a_dpicks v_dpicks, wR dT a_dkeeps v_dkeeps, wRw dT v_fam.1 a_fam v_fam.2.2, wT dT a_trials (a_dusk 0) (a_trial 0) (a_tknown 0) v_trials, wV dT a_trial v_trial, wK dT a_tknown v_tknown]) (As := [.int p0]) C 5 dX11_storms_2 rfl kv_X11_193 (c_X11_needPerson hq1) ⟨rfl, rfl⟩ ⟨Nat.le_of_ble_eq_true rfl, Nat.le_of_ble_eq_true rfl⟩ rfl rfl rfl [0, 4] [1, 2, 3, 5, 6, 7] [6, 0, 1, 2, 7, 3, 4, 5] rfl rfl rfl rfl (by decide) rfl rfl rfl rfl ⟨Nat.zero_le _, Nat.zero_le _⟩ (Nat.le_of_ble_eq_true rfl) ?_
  refine wa_aload_n C 0 6 dX11_storms_5 rfl rfl ?_
  refine wa_iload_n C 2 7 dX11_storms_6 rfl rfl ?_
  obtain ⟨q3, hq3, hf⟩ := bind_ex hf
  refine wa_callVv (b1 := 0) (q1 := 0) (ci := 11) (ws' := [wH dT a h_tape h_reader h_friends (a_dusk 0) (a_fam 0 0) h_coming h_acts h_seen h_pairs (a_trials 0) h_imageNow h_imageActs h_imageSeen v, wD dT a_dusk (a_dpicks 0) (a_dkeeps 0) v_dusk, wR dT a_dpicks v_dpicks, wR dT a_dkeeps v_dkeeps, wRw dT v_fam.1 a_fam v_fam.2.2, wT dT a_trials (a_dusk 0) (a_trial 0) (a_tknown 0) v_trials, wV dT a_trial v_trial, wK dT a_tknown v_tknown]) (As := [.int p1]) C 10 dX11_storms_7 rfl kv_X11_193 (c_X11_needPerson hq3) ⟨rfl, rfl⟩ ⟨Nat.le_of_ble_eq_true rfl, Nat.le_of_ble_eq_true rfl⟩ rfl rfl rfl [0, 4] [1, 2, 3, 5, 6, 7] [6, 0, 1, 2, 7, 3, 4, 5] rfl rfl rfl rfl (by decide) rfl rfl rfl rfl ⟨Nat.zero_le _, Nat.zero_le _⟩ (Nat.le_of_ble_eq_true rfl) ?_
  refine wa_iload_n C 3 11 dX11_storms_10 rfl rfl ?_
  refine wa_iconst (v := 1) C 12 dX11_storms_11 rfl rfl ?_
  refine wa_iconst (v := 5) C 13 dX11_storms_12 rfl rfl ?_
  obtain ⟨q5, hq5, hf⟩ := bind_ex hf
  refine wa_callS0v (As := [.int p2, .int (1 : Int32), .int (5 : Int32)]) C 16 dX11_storms_13 rfl ks_X11_276 (c_X11_needWithin hq5) ⟨rfl, rfl⟩ ⟨Nat.le_of_ble_eq_true rfl, Nat.le_of_ble_eq_true rfl⟩ rfl rfl ⟨Nat.zero_le _, Nat.zero_le _⟩ (Nat.le_of_ble_eq_true rfl) ?_
  refine wa_iload C 4 18 dX11_storms_16 rfl rfl ?_
  refine wa_iconst (v := 0) C 19 dX11_storms_18 rfl rfl ?_
  refine wa_bipush (v := 10) C 21 dX11_storms_19 rfl rfl ?_
  obtain ⟨q7, hq7, hf⟩ := bind_ex hf
  refine wa_callS0v (As := [.int p3, .int (0 : Int32), .int (10 : Int32)]) C 24 dX11_storms_21 rfl ks_X11_276 (c_X11_needWithin hq7) ⟨rfl, rfl⟩ ⟨Nat.le_of_ble_eq_true rfl, Nat.le_of_ble_eq_true rfl⟩ rfl rfl ⟨Nat.zero_le _, Nat.zero_le _⟩ (Nat.le_of_ble_eq_true rfl) ?_
  refine wa_aload_n C 0 25 dX11_storms_24 rfl rfl ?_
  refine wa_get C 28 0 0 12 dX11_storms_25 rfl iX11 q369 rfl (Nat.le_of_ble_eq_true rfl) rfl rfl rfl ?_
  refine wa_aload_n C 0 29 dX11_storms_28 rfl rfl ?_
  refine wa_get C 32 0 0 7 dX11_storms_29 rfl iX11 q364 rfl (Nat.le_of_ble_eq_true rfl) rfl rfl rfl ?_
  refine wa_iload_n C 1 33 dX11_storms_32 rfl rfl ?_
  refine wa_iload_n C 2 34 dX11_storms_33 rfl rfl ?_
  refine wa_iload_n C 3 35 dX11_storms_34 rfl rfl ?_
  refine wa_iload C 4 37 dX11_storms_35 rfl rfl ?_
  obtain ⟨g9, hf⟩ := grd_ex hf
  replace g9 := of_decide_eq_true g9
  refine wa_openF 4 0 g9 List.not_mem_nil rfl ?_
  obtain ⟨q10, hq10, hf⟩ := bind_ex hf
  refine wa_callVi (b1 := 5) (q1 := 0) (ci := 9) (ws' := [wH dT a h_tape h_reader h_friends (a_dusk 0) (a_fam 0 0) h_coming h_acts h_seen h_pairs (a_trials 0) h_imageNow h_imageActs h_imageSeen v, wD dT a_dusk (a_dpicks 0) (a_dkeeps 0) q10.2.1, wR dT a_dpicks q10.2.2.1, wR dT a_dkeeps q10.2.2.2.1, wRm dT v_fam.1 [0] a_fam v_fam.2.2, wT dT a_trials (a_dusk 0) (a_trial 0) (a_tknown 0) v_trials, wV dT a_trial q10.2.2.2.2, wK dT a_tknown v_tknown, wV dT (a_fam 0) (v_fam.2.2 0)]) (As := [.ref (a_fam 0 0), .int p0, .int p1, .int p2, .int p3]) C 40 dX11_storms_37 rfl kv_X11_358 (c_X9_byStorms hq10) ⟨rfl, rfl⟩ ⟨Nat.le_of_ble_eq_true rfl, Nat.le_of_ble_eq_true rfl⟩ rfl rfl rfl [5, 1, 2, 3, 6, 7, 8] [0, 4] [0, 3, 4, 5, 1, 2, 6, 7, 8] rfl rfl rfl rfl (by decide) rfl rfl rfl rfl ⟨Nat.zero_le _, Nat.zero_le _⟩ (Nat.le_of_ble_eq_true rfl) ?_
  refine wa_closeR (ws := [wH dT a h_tape h_reader h_friends (a_dusk 0) (a_fam 0 0) h_coming h_acts h_seen h_pairs (a_trials 0) h_imageNow h_imageActs h_imageSeen v, wD dT a_dusk (a_dpicks 0) (a_dkeeps 0) q10.2.1, wR dT a_dpicks q10.2.2.1, wR dT a_dkeeps q10.2.2.2.1, wRm dT v_fam.1 [0] a_fam v_fam.2.2, wT dT a_trials (a_dusk 0) (a_trial 0) (a_tknown 0) v_trials, wV dT a_trial q10.2.2.2.2, wK dT a_tknown v_tknown]) (ws' := [wH dT a h_tape h_reader h_friends (a_dusk 0) (a_fam 0 0) h_coming h_acts h_seen h_pairs (a_trials 0) h_imageNow h_imageActs h_imageSeen v, wD dT a_dusk (a_dpicks 0) (a_dkeeps 0) q10.2.1, wR dT a_dpicks q10.2.2.1, wR dT a_dkeeps q10.2.2.2.1, wRm dT v_fam.1 [] a_fam v_fam.2.2, wT dT a_trials (a_dusk 0) (a_trial 0) (a_tknown 0) v_trials, wV dT a_trial q10.2.2.2.2, wK dT a_tknown v_tknown]) 4 0 g9 List.not_mem_nil rfl rfl ?_
  refine wa_ws (ws' := [wH dT a h_tape h_reader h_friends (a_dusk 0) (a_fam 0 0) h_coming h_acts h_seen h_pairs (a_trials 0) h_imageNow h_imageActs h_imageSeen v, wD dT a_dusk (a_dpicks 0) (a_dkeeps 0) q10.2.1, wR dT a_dpicks q10.2.2.1, wR dT a_dkeeps q10.2.2.2.1, wRw dT v_fam.1 a_fam v_fam.2.2, wT dT a_trials (a_dusk 0) (a_trial 0) (a_tknown 0) v_trials, wV dT a_trial q10.2.2.2.2, wK dT a_tknown v_tknown]) rfl ?_
  cases hf
  exact wa_iret C dX11_storms_40 rfl rfl
theorem kv_X11_364 : KV RX11 364 yX9_play cX9_play 9 none 4 := KV.mk q1373 q1374 q1375 q12 q1376 ⟨by decide, by decide, by decide +kernel⟩
theorem kv_X11_368 : KV RX11 368 yX9_restsMany cX9_restsMany 3 (some .int) 0 := KV.mk q1383 q1384 q1385 q12 q1386 ⟨by decide, by decide, by decide +kernel⟩
theorem kv_X11_371 : KV RX11 371 yX9_restsFirst cX9_restsFirst 2 (some .int) 0 := KV.mk q1391 q1392 q1393 q12 q1394 ⟨by decide, by decide, by decide +kernel⟩
def f_X11_game (v : Ob) (v_friends : Ob) (v_dusk : Ob) (v_dpicks : Ob) (v_dkeeps : Ob) (v_fam : FS) (v_trials : Ob) (v_trial : Ob) (v_tknown : Ob) (p0 : Int32) (p1 : Int32) (p2 : Int32) : Option (Int32 × Ob × Ob × Ob × Ob × Ob) := (f_X11_needPerson v v_fam p0).bind (fun q1 => (f_X11_needPerson v v_fam p1).bind (fun q3 => (f_X11_needWhat p2 (1 : Int32)).bind (fun q5 => (if p0 = p1 then none else grd (decide (0 < v_fam.1)) ((f_X9_play v_trials v_dusk v_dpicks v_dkeeps v_trial v_tknown (v_fam.2.2 0) v_friends p0 p1).bind (fun q9 => (if p2 = 0 then (f_X9_restsMany q9.1 q9.2.1 q9.2.2.1 q9.2.2.2.1 q9.2.2.2.2 v_tknown).bind (fun q14 => some (q14, q9.2.1, q9.2.2.1, q9.2.2.2.1, q9.1, q9.2.2.2.2)) else (f_X9_restsFirst q9.1 q9.2.1 q9.2.2.1 q9.2.2.2.1 q9.2.2.2.2 v_tknown).bind (fun q12 => some (q12, q9.2.1, q9.2.2.1, q9.2.2.2.1, q9.1, q9.2.2.2.2)))))))))
set_option maxRecDepth 20000 in
theorem c_X11_game {l : Launch} {D : va_G} {dT : Nat → ClassId} {a : Nat → Nat} {a_friends : Nat → Nat} {a_dusk : Nat → Nat} {a_dpicks : Nat → Nat} {a_dkeeps : Nat → Nat} {a_fam : Nat → Nat → Nat} {a_trials : Nat → Nat} {a_trial : Nat → Nat} {a_tknown : Nat → Nat} {h_tape : Nat} {h_reader : Nat} {h_coming : Nat} {h_acts : Nat} {h_seen : Nat} {h_pairs : Nat} {h_imageNow : Nat} {h_imageActs : Nat} {h_imageSeen : Nat} {v : Ob} {v_friends : Ob} {v_dusk : Ob} {v_dpicks : Ob} {v_dkeeps : Ob} {v_fam : FS} {v_trials : Ob} {v_trial : Ob} {v_tknown : Ob} {p0 : Int32} {p1 : Int32} {p2 : Int32} {res : Int32 × Ob × Ob × Ob × Ob × Ob} (hf : f_X11_game v v_friends v_dusk v_dpicks v_dkeeps v_fam v_trials v_trial v_tknown p0 p1 p2 = some res) : CTi l yX11_game cX11_game 4 (some .int) ({ frames := 7, cells := 0, slots := 0, locals := 158 } : Room) D dT [.ref (a 0), .int p0, .int p1, .int p2] ([wH dT a h_tape h_reader (a_friends 0) (a_dusk 0) (a_fam 0 0) h_coming h_acts h_seen h_pairs (a_trials 0) h_imageNow h_imageActs h_imageSeen v, wF dT a_friends v_friends, wD dT a_dusk (a_dpicks 0) (a_dkeeps 0) v_dusk, wR dT a_dpicks v_dpicks, wR dT a_dkeeps v_dkeeps, wRw dT v_fam.1 a_fam v_fam.2.2, wT dT a_trials (a_dusk 0) (a_trial 0) (a_tknown 0) v_trials, wV dT a_trial v_trial, wK dT a_tknown v_tknown]) ([wH dT a h_tape h_reader (a_friends 0) (a_dusk 0) (a_fam 0 0) h_coming h_acts h_seen h_pairs (a_trials 0) h_imageNow h_imageActs h_imageSeen v, wF dT a_friends v_friends, wD dT a_dusk (a_dpicks 0) (a_dkeeps 0) res.2.1, wR dT a_dpicks res.2.2.1, wR dT a_dkeeps res.2.2.2.1, wRw dT v_fam.1 a_fam v_fam.2.2, wT dT a_trials (a_dusk 0) (a_trial 0) (a_tknown 0) res.2.2.2.2.1, wV dT a_trial res.2.2.2.2.2, wK dT a_tknown v_tknown]) res.1 := by
  refine CTi.of (by decide) (Nat.le_of_ble_eq_true rfl) rfl ?_
  intro p e s m args below meth c A C
  unfold f_X11_game at hf
  refine wa_aload_n C 0 1 dX11_game_0 rfl rfl ?_
  refine wa_iload_n C 1 2 dX11_game_1 rfl rfl ?_
  obtain ⟨q1, hq1, hf⟩ := bind_ex hf
  refine wa_callVv (b1 := 0) (q1 := 0) (ci := 11) (ws' := [wH dT a h_tape h_reader (a_friends 0) (a_dusk 0) (a_fam 0 0) h_coming h_acts h_seen h_pairs (a_trials 0) h_imageNow h_imageActs h_imageSeen v, wF dT a_friends v_friends, wD dT a_dusk (a_dpicks 0) (a_dkeeps 0) v_dusk, wR dT a_dpicks v_dpicks, wR dT a_dkeeps v_dkeeps, wRw dT v_fam.1 a_fam v_fam.2.2, wT dT a_trials (a_dusk 0) (a_trial 0) (a_tknown 0) v_trials, wV dT a_trial v_trial, wK dT a_tknown v_tknown]) (As := [.int p0]) C 5 dX11_game_2 rfl kv_X11_193 (c_X11_needPerson hq1) ⟨rfl, rfl⟩ ⟨Nat.le_of_ble_eq_true rfl, Nat.le_of_ble_eq_true rfl⟩ rfl rfl rfl [0, 5] [1, 2, 3, 4, 6, 7, 8] [7, 0, 1, 2, 3, 8, 4, 5, 6] rfl rfl rfl rfl (by decide) rfl rfl rfl rfl ⟨Nat.zero_le _, Nat.zero_le _⟩ (Nat.le_of_ble_eq_true rfl) ?_
  refine wa_aload_n C 0 6 dX11_game_5 rfl rfl ?_
  refine wa_iload_n C 2 7 dX11_game_6 rfl rfl ?_
  obtain ⟨q3, hq3, hf⟩ := bind_ex hf
  refine wa_callVv (b1 := 0) (q1 := 0) (ci := 11) (ws' := [wH dT a h_tape h_reader (a_friends 0) (a_dusk 0) (a_fam 0 0) h_coming h_acts h_seen h_pairs (a_trials 0) h_imageNow h_imageActs h_imageSeen v, wF dT a_friends v_friends, wD dT a_dusk (a_dpicks 0) (a_dkeeps 0) v_dusk, wR dT a_dpicks v_dpicks, wR dT a_dkeeps v_dkeeps, wRw dT v_fam.1 a_fam v_fam.2.2, wT dT a_trials (a_dusk 0) (a_trial 0) (a_tknown 0) v_trials, wV dT a_trial v_trial, wK dT a_tknown v_tknown]) (As := [.int p1]) C 10 dX11_game_7 rfl kv_X11_193 (c_X11_needPerson hq3) ⟨rfl, rfl⟩ ⟨Nat.le_of_ble_eq_true rfl, Nat.le_of_ble_eq_true rfl⟩ rfl rfl rfl [0, 5] [1, 2, 3, 4, 6, 7, 8] [7, 0, 1, 2, 3, 8, 4, 5, 6] rfl rfl rfl rfl (by decide) rfl rfl rfl rfl ⟨Nat.zero_le _, Nat.zero_le _⟩ (Nat.le_of_ble_eq_true rfl) ?_
  refine wa_iload_n C 3 11 dX11_game_10 rfl rfl ?_
  refine wa_iconst (v := 1) C 12 dX11_game_11 rfl rfl ?_
  obtain ⟨q5, hq5, hf⟩ := bind_ex hf
  refine wa_callS0v (As := [.int p2, .int (1 : Int32)]) C 15 dX11_game_12 rfl ks_X11_273 (c_X11_needWhat hq5) ⟨rfl, rfl⟩ ⟨Nat.le_of_ble_eq_true rfl, Nat.le_of_ble_eq_true rfl⟩ rfl rfl ⟨Nat.zero_le _, Nat.zero_le _⟩ (Nat.le_of_ble_eq_true rfl) ?_
  refine wa_iload_n C 1 16 dX11_game_15 rfl rfl ?_
  refine wa_iload_n C 2 17 dX11_game_16 rfl rfl ?_
  refine wa_icmp_ne C 31 20 dX11_game_17 rfl rfl (fun c7 => ?_) (fun c7 => ?_)
  · replace hf := ite_f hf c7
    refine wa_aload_n C 0 32 dX11_game_31 rfl rfl ?_
    refine wa_get C 35 0 0 12 dX11_game_32 rfl iX11 q369 rfl (Nat.le_of_ble_eq_true rfl) rfl rfl rfl ?_
    refine wa_aload_n C 0 36 dX11_game_35 rfl rfl ?_
    refine wa_get C 39 0 0 7 dX11_game_36 rfl iX11 q364 rfl (Nat.le_of_ble_eq_true rfl) rfl rfl rfl ?_
    refine wa_aload_n C 0 40 dX11_game_39 rfl rfl ?_
    refine wa_get C 43 0 0 5 dX11_game_40 rfl iX11 q362 rfl (Nat.le_of_ble_eq_true rfl) rfl rfl rfl ?_
    refine wa_iload_n C 1 44 dX11_game_43 rfl rfl ?_
    refine wa_iload_n C 2 45 dX11_game_44 rfl rfl ?_
    obtain ⟨g8, hf⟩ := grd_ex hf
    replace g8 := of_decide_eq_true g8
    refine wa_openF 5 0 g8 List.not_mem_nil rfl ?_
    obtain ⟨q9, hq9, hf⟩ := bind_ex hf
    refine wa_callVv (b1 := 6) (q1 := 0) (ci := 9) (ws' := [wH dT a h_tape h_reader (a_friends 0) (a_dusk 0) (a_fam 0 0) h_coming h_acts h_seen h_pairs (a_trials 0) h_imageNow h_imageActs h_imageSeen v, wF dT a_friends v_friends, wD dT a_dusk (a_dpicks 0) (a_dkeeps 0) q9.2.1, wR dT a_dpicks q9.2.2.1, wR dT a_dkeeps q9.2.2.2.1, wRm dT v_fam.1 [0] a_fam v_fam.2.2, wT dT a_trials (a_dusk 0) (a_trial 0) (a_tknown 0) q9.1, wV dT a_trial q9.2.2.2.2, wK dT a_tknown v_tknown, wV dT (a_fam 0) (v_fam.2.2 0)]) (As := [.ref (a_fam 0 0), .ref (a_friends 0), .int p0, .int p1]) C 48 dX11_game_45 rfl kv_X11_364 (c_X9_play hq9) ⟨rfl, rfl⟩ ⟨Nat.le_of_ble_eq_true rfl, Nat.le_of_ble_eq_true rfl⟩ rfl rfl rfl [6, 2, 3, 4, 7, 8, 9, 1] [0, 5] [0, 9, 3, 4, 5, 1, 2, 6, 7, 8] rfl rfl rfl rfl (by decide) rfl rfl rfl rfl ⟨Nat.zero_le _, Nat.zero_le _⟩ (Nat.le_of_ble_eq_true rfl) ?_
    refine wa_closeR (ws := [wH dT a h_tape h_reader (a_friends 0) (a_dusk 0) (a_fam 0 0) h_coming h_acts h_seen h_pairs (a_trials 0) h_imageNow h_imageActs h_imageSeen v, wF dT a_friends v_friends, wD dT a_dusk (a_dpicks 0) (a_dkeeps 0) q9.2.1, wR dT a_dpicks q9.2.2.1, wR dT a_dkeeps q9.2.2.2.1, wRm dT v_fam.1 [0] a_fam v_fam.2.2, wT dT a_trials (a_dusk 0) (a_trial 0) (a_tknown 0) q9.1, wV dT a_trial q9.2.2.2.2, wK dT a_tknown v_tknown]) (ws' := [wH dT a h_tape h_reader (a_friends 0) (a_dusk 0) (a_fam 0 0) h_coming h_acts h_seen h_pairs (a_trials 0) h_imageNow h_imageActs h_imageSeen v, wF dT a_friends v_friends, wD dT a_dusk (a_dpicks 0) (a_dkeeps 0) q9.2.1, wR dT a_dpicks q9.2.2.1, wR dT a_dkeeps q9.2.2.2.1, wRm dT v_fam.1 [] a_fam v_fam.2.2, wT dT a_trials (a_dusk 0) (a_trial 0) (a_tknown 0) q9.1, wV dT a_trial q9.2.2.2.2, wK dT a_tknown v_tknown]) 5 0 g8 List.not_mem_nil rfl rfl ?_
    refine wa_ws (ws' := [wH dT a h_tape h_reader (a_friends 0) (a_dusk 0) (a_fam 0 0) h_coming h_acts h_seen h_pairs (a_trials 0) h_imageNow h_imageActs h_imageSeen v, wF dT a_friends v_friends, wD dT a_dusk (a_dpicks 0) (a_dkeeps 0) q9.2.1, wR dT a_dpicks q9.2.2.1, wR dT a_dkeeps q9.2.2.2.1, wRw dT v_fam.1 a_fam v_fam.2.2, wT dT a_trials (a_dusk 0) (a_trial 0) (a_tknown 0) q9.1, wV dT a_trial q9.2.2.2.2, wK dT a_tknown v_tknown]) rfl ?_
    refine wa_iload_n C 3 49 dX11_game_48 rfl rfl ?_
    refine wa_if_ne C 62 52 dX11_game_49 rfl rfl (fun c11 => ?_) (fun c11 => ?_)
    · replace hf := ite_f hf c11
      refine wa_aload_n C 0 63 dX11_game_62 rfl rfl ?_
      refine wa_get C 66 0 0 12 dX11_game_63 rfl iX11 q369 rfl (Nat.le_of_ble_eq_true rfl) rfl rfl rfl ?_
      obtain ⟨q12, hq12, hf⟩ := bind_ex hf
      refine wa_callVi (b1 := 6) (q1 := 0) (ci := 9) (ws' := [wH dT a h_tape h_reader (a_friends 0) (a_dusk 0) (a_fam 0 0) h_coming h_acts h_seen h_pairs (a_trials 0) h_imageNow h_imageActs h_imageSeen v, wF dT a_friends v_friends, wD dT a_dusk (a_dpicks 0) (a_dkeeps 0) q9.2.1, wR dT a_dpicks q9.2.2.1, wR dT a_dkeeps q9.2.2.2.1, wRw dT v_fam.1 a_fam v_fam.2.2, wT dT a_trials (a_dusk 0) (a_trial 0) (a_tknown 0) q9.1, wV dT a_trial q9.2.2.2.2, wK dT a_tknown v_tknown]) (As := []) C 69 dX11_game_66 rfl kv_X11_371 (c_X9_restsFirst hq12) ⟨rfl, rfl⟩ ⟨Nat.le_of_ble_eq_true rfl, Nat.le_of_ble_eq_true rfl⟩ rfl rfl rfl [6, 2, 3, 4, 7, 8] [0, 1, 5] [0, 1, 4, 5, 6, 2, 3, 7, 8] rfl rfl rfl rfl (by decide) rfl rfl rfl rfl ⟨Nat.zero_le _, Nat.zero_le _⟩ (Nat.le_of_ble_eq_true rfl) ?_
      cases hf
      exact wa_iret C dX11_game_69 rfl rfl
    · replace hf := ite_t hf c11
      refine wa_aload_n C 0 53 dX11_game_52 rfl rfl ?_
      refine wa_get C 56 0 0 12 dX11_game_53 rfl iX11 q369 rfl (Nat.le_of_ble_eq_true rfl) rfl rfl rfl ?_
      obtain ⟨q14, hq14, hf⟩ := bind_ex hf
      refine wa_callVi (b1 := 6) (q1 := 0) (ci := 9) (ws' := [wH dT a h_tape h_reader (a_friends 0) (a_dusk 0) (a_fam 0 0) h_coming h_acts h_seen h_pairs (a_trials 0) h_imageNow h_imageActs h_imageSeen v, wF dT a_friends v_friends, wD dT a_dusk (a_dpicks 0) (a_dkeeps 0) q9.2.1, wR dT a_dpicks q9.2.2.1, wR dT a_dkeeps q9.2.2.2.1, wRw dT v_fam.1 a_fam v_fam.2.2, wT dT a_trials (a_dusk 0) (a_trial 0) (a_tknown 0) q9.1, wV dT a_trial q9.2.2.2.2, wK dT a_tknown v_tknown]) (As := []) C 59 dX11_game_56 rfl kv_X11_368 (c_X9_restsMany hq14) ⟨rfl, rfl⟩ ⟨Nat.le_of_ble_eq_true rfl, Nat.le_of_ble_eq_true rfl⟩ rfl rfl rfl [6, 2, 3, 4, 7, 8] [0, 1, 5] [0, 1, 4, 5, 6, 2, 3, 7, 8] rfl rfl rfl rfl (by decide) rfl rfl rfl rfl ⟨Nat.zero_le _, Nat.zero_le _⟩ (Nat.le_of_ble_eq_true rfl) ?_
      refine wa_goto C 69 dX11_game_59 rfl ?_
      cases hf
      exact wa_iret C dX11_game_69 rfl rfl
  · replace hf := ite_t hf c7
    cases hf
theorem kv_X11_374 : KV RX11 374 yX9_liveYears cX9_liveYears 7 (some .int) 4 := KV.mk q1402 q1403 q1404 q12 q1405 ⟨by decide, by decide, by decide +kernel⟩
def f_X11_years (v : Ob) (v_dusk : Ob) (v_dpicks : Ob) (v_dkeeps : Ob) (v_fam : FS) (v_trials : Ob) (v_trial : Ob) (v_tknown : Ob) (p0 : Int32) (p1 : Int32) (p2 : Int32) : Option (Int32 × Ob × Ob × Ob × Ob × Ob) := (f_X11_needWhat p2 (2 : Int32)).bind (fun q1 => (f_X11_needWithin p1 (0 : Int32) (100 : Int32)).bind (fun q3 => grd (decide (0 < v_fam.1)) ((f_X9_liveYears v_trials v_dusk v_dpicks v_dkeeps v_trial v_tknown (v_fam.2.2 0) p0 p1 p2).bind (fun q6 => some (q6.1, q6.2.2.1, q6.2.2.2.1, q6.2.2.2.2.1, q6.2.1, q6.2.2.2.2.2)))))
set_option maxRecDepth 20000 in
theorem c_X11_years {l : Launch} {D : va_G} {dT : Nat → ClassId} {a : Nat → Nat} {a_dusk : Nat → Nat} {a_dpicks : Nat → Nat} {a_dkeeps : Nat → Nat} {a_fam : Nat → Nat → Nat} {a_trials : Nat → Nat} {a_trial : Nat → Nat} {a_tknown : Nat → Nat} {h_tape : Nat} {h_reader : Nat} {h_friends : Nat} {h_coming : Nat} {h_acts : Nat} {h_seen : Nat} {h_pairs : Nat} {h_imageNow : Nat} {h_imageActs : Nat} {h_imageSeen : Nat} {v : Ob} {v_dusk : Ob} {v_dpicks : Ob} {v_dkeeps : Ob} {v_fam : FS} {v_trials : Ob} {v_trial : Ob} {v_tknown : Ob} {p0 : Int32} {p1 : Int32} {p2 : Int32} {res : Int32 × Ob × Ob × Ob × Ob × Ob} (hf : f_X11_years v v_dusk v_dpicks v_dkeeps v_fam v_trials v_trial v_tknown p0 p1 p2 = some res) : CTi l yX11_years cX11_years 4 (some .int) ({ frames := 7, cells := 0, slots := 0, locals := 156 } : Room) D dT [.ref (a 0), .int p0, .int p1, .int p2] ([wH dT a h_tape h_reader h_friends (a_dusk 0) (a_fam 0 0) h_coming h_acts h_seen h_pairs (a_trials 0) h_imageNow h_imageActs h_imageSeen v, wD dT a_dusk (a_dpicks 0) (a_dkeeps 0) v_dusk, wR dT a_dpicks v_dpicks, wR dT a_dkeeps v_dkeeps, wRw dT v_fam.1 a_fam v_fam.2.2, wT dT a_trials (a_dusk 0) (a_trial 0) (a_tknown 0) v_trials, wV dT a_trial v_trial, wK dT a_tknown v_tknown]) ([wH dT a h_tape h_reader h_friends (a_dusk 0) (a_fam 0 0) h_coming h_acts h_seen h_pairs (a_trials 0) h_imageNow h_imageActs h_imageSeen v, wD dT a_dusk (a_dpicks 0) (a_dkeeps 0) res.2.1, wR dT a_dpicks res.2.2.1, wR dT a_dkeeps res.2.2.2.1, wRw dT v_fam.1 a_fam v_fam.2.2, wT dT a_trials (a_dusk 0) (a_trial 0) (a_tknown 0) res.2.2.2.2.1, wV dT a_trial res.2.2.2.2.2, wK dT a_tknown v_tknown]) res.1 := by
  refine CTi.of (by decide) (Nat.le_of_ble_eq_true rfl) rfl ?_
  intro p e s m args below meth c A C
  unfold f_X11_years at hf
  refine wa_iload_n C 3 1 dX11_years_0 rfl rfl ?_
  refine wa_iconst (v := 2) C 2 dX11_years_1 rfl rfl ?_
  obtain ⟨q1, hq1, hf⟩ := bind_ex hf
  refine wa_callS0v (As := [.int p2, .int (2 : Int32)]) C 5 dX11_years_2 rfl ks_X11_273 (c_X11_needWhat hq1) ⟨rfl, rfl⟩ ⟨Nat.le_of_ble_eq_true rfl, Nat.le_of_ble_eq_true rfl⟩ rfl rfl ⟨Nat.zero_le _, Nat.zero_le _⟩ (Nat.le_of_ble_eq_true rfl) ?_
  refine wa_iload_n C 2 6 dX11_years_5 rfl rfl ?_
  refine wa_iconst (v := 0) C 7 dX11_years_6 rfl rfl ?_
  refine wa_bipush (v := 100) C 9 dX11_years_7 rfl rfl ?_
  obtain ⟨q3, hq3, hf⟩ := bind_ex hf
  refine wa_callS0v (As := [.int p1, .int (0 : Int32), .int (100 : Int32)]) C 12 dX11_years_9 rfl ks_X11_276 (c_X11_needWithin hq3) ⟨rfl, rfl⟩ ⟨Nat.le_of_ble_eq_true rfl, Nat.le_of_ble_eq_true rfl⟩ rfl rfl ⟨Nat.zero_le _, Nat.zero_le _⟩ (Nat.le_of_ble_eq_true rfl) ?_
  refine wa_aload_n C 0 13 dX11_years_12 rfl rfl ?_
  refine wa_get C 16 0 0 12 dX11_years_13 rfl iX11 q369 rfl (Nat.le_of_ble_eq_true rfl) rfl rfl rfl ?_
  refine wa_aload_n C 0 17 dX11_years_16 rfl rfl ?_
  refine wa_get C 20 0 0 7 dX11_years_17 rfl iX11 q364 rfl (Nat.le_of_ble_eq_true rfl) rfl rfl rfl ?_
  refine wa_iload_n C 1 21 dX11_years_20 rfl rfl ?_
  refine wa_iload_n C 2 22 dX11_years_21 rfl rfl ?_
  refine wa_iload_n C 3 23 dX11_years_22 rfl rfl ?_
  obtain ⟨g5, hf⟩ := grd_ex hf
  replace g5 := of_decide_eq_true g5
  refine wa_openF 4 0 g5 List.not_mem_nil rfl ?_
  obtain ⟨q6, hq6, hf⟩ := bind_ex hf
  refine wa_callVi (b1 := 5) (q1 := 0) (ci := 9) (ws' := [wH dT a h_tape h_reader h_friends (a_dusk 0) (a_fam 0 0) h_coming h_acts h_seen h_pairs (a_trials 0) h_imageNow h_imageActs h_imageSeen v, wD dT a_dusk (a_dpicks 0) (a_dkeeps 0) q6.2.2.1, wR dT a_dpicks q6.2.2.2.1, wR dT a_dkeeps q6.2.2.2.2.1, wRm dT v_fam.1 [0] a_fam v_fam.2.2, wT dT a_trials (a_dusk 0) (a_trial 0) (a_tknown 0) q6.2.1, wV dT a_trial q6.2.2.2.2.2, wK dT a_tknown v_tknown, wV dT (a_fam 0) (v_fam.2.2 0)]) (As := [.ref (a_fam 0 0), .int p0, .int p1, .int p2]) C 26 dX11_years_23 rfl kv_X11_374 (c_X9_liveYears hq6) ⟨rfl, rfl⟩ ⟨Nat.le_of_ble_eq_true rfl, Nat.le_of_ble_eq_true rfl⟩ rfl rfl rfl [5, 1, 2, 3, 6, 7, 8] [0, 4] [0, 3, 4, 5, 1, 2, 6, 7, 8] rfl rfl rfl rfl (by decide) rfl rfl rfl rfl ⟨Nat.zero_le _, Nat.zero_le _⟩ (Nat.le_of_ble_eq_true rfl) ?_
  refine wa_closeR (ws := [wH dT a h_tape h_reader h_friends (a_dusk 0) (a_fam 0 0) h_coming h_acts h_seen h_pairs (a_trials 0) h_imageNow h_imageActs h_imageSeen v, wD dT a_dusk (a_dpicks 0) (a_dkeeps 0) q6.2.2.1, wR dT a_dpicks q6.2.2.2.1, wR dT a_dkeeps q6.2.2.2.2.1, wRm dT v_fam.1 [0] a_fam v_fam.2.2, wT dT a_trials (a_dusk 0) (a_trial 0) (a_tknown 0) q6.2.1, wV dT a_trial q6.2.2.2.2.2, wK dT a_tknown v_tknown]) (ws' := [wH dT a h_tape h_reader h_friends (a_dusk 0) (a_fam 0 0) h_coming h_acts h_seen h_pairs (a_trials 0) h_imageNow h_imageActs h_imageSeen v, wD dT a_dusk (a_dpicks 0) (a_dkeeps 0) q6.2.2.1, wR dT a_dpicks q6.2.2.2.1, wR dT a_dkeeps q6.2.2.2.2.1, wRm dT v_fam.1 [] a_fam v_fam.2.2, wT dT a_trials (a_dusk 0) (a_trial 0) (a_tknown 0) q6.2.1, wV dT a_trial q6.2.2.2.2.2, wK dT a_tknown v_tknown]) 4 0 g5 List.not_mem_nil rfl rfl ?_
  refine wa_ws (ws' := [wH dT a h_tape h_reader h_friends (a_dusk 0) (a_fam 0 0) h_coming h_acts h_seen h_pairs (a_trials 0) h_imageNow h_imageActs h_imageSeen v, wD dT a_dusk (a_dpicks 0) (a_dkeeps 0) q6.2.2.1, wR dT a_dpicks q6.2.2.2.1, wR dT a_dkeeps q6.2.2.2.2.1, wRw dT v_fam.1 a_fam v_fam.2.2, wT dT a_trials (a_dusk 0) (a_trial 0) (a_tknown 0) q6.2.1, wV dT a_trial q6.2.2.2.2.2, wK dT a_tknown v_tknown]) rfl ?_
  cases hf
  exact wa_iret C dX11_years_26 rfl rfl
