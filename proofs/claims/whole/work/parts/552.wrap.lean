theorem kv_L_64 : KV "NewHousesLaw" 64 yX11_round cX11_round 2 (some .int) 1 := KV.mk q1198 q1199 q1200 q1 q1201 ⟨by decide, by decide, by decide +kernel⟩
def f_L_round (v0 : Ob) (v0_coming : CS) (v0_dusk : Ob) (v0_dpicks : Ob) (v0_dkeeps : Ob) (v0_known : Ob) (v0_fam : FS) (u2 : (Nat → Int64)) (B6 : Nat) (p1 : Int32) : Option (Int32 × CS × Ob × Ob × Ob × FS × (Nat → Int64)) := (f_X11_round v0 v0_coming v0_dusk v0_dpicks v0_dkeeps v0_known v0_fam B6 p1).bind (fun q1 => grd (decide (v0_fam.1 ≤ q1.2.2.2.2.2.1 ∧ q1.2.2.2.2.2.1 ≤ B6)) (grd (vi (0 : Int32) 1) (bnd (vp_updL u2 ((0 : Int32)).toNatClampNeg q1.1.toInt64) (fun y5 => some ((0 : Int32), q1.2.1, q1.2.2.1, q1.2.2.2.1, q1.2.2.2.2.1, q1.2.2.2.2.2, y5)))))
set_option maxRecDepth 20000 in
theorem c_L_round {l : Launch} {D : va_G} {dT : Nat → ClassId} {aK aV : Nat → Nat} {a0 : Nat → Nat} {a0_coming : Nat → Nat} {a0_dusk : Nat → Nat} {a0_dpicks : Nat → Nat} {a0_dkeeps : Nat → Nat} {a0_known : Nat → Nat} {a0_fam : Nat → Nat → Nat} {b2 : Nat} {h_tape : Nat} {h_reader : Nat} {h_friends : Nat} {h_acts : Nat} {h_seen : Nat} {h_pairs : Nat} {h_trials : Nat} {h_imageNow : Nat} {h_imageActs : Nat} {h_imageSeen : Nat} {v0 : Ob} {v0_coming : CS} {v0_dusk : Ob} {v0_dpicks : Ob} {v0_dkeeps : Ob} {v0_known : Ob} {v0_fam : FS} {u2 : (Nat → Int64)} {B6 : Nat} {p1 : Int32} {res : Int32 × CS × Ob × Ob × Ob × FS × (Nat → Int64)} (hf : f_L_round v0 v0_coming v0_dusk v0_dpicks v0_dkeeps v0_known v0_fam u2 B6 p1 = some res) : CWi aK aV l yL_round cL_round 4 [((0 : Nat), (9 : Nat), (12 : Nat), (18 : Nat))] ({ frames := 9, cells := 8 * ((B6 - v0_fam.1)), slots := 96 * ((B6 - v0_fam.1)), locals := 197 } : Room) D dT [.ref (a0 0), .int p1, .ref b2] ([wH dT a0 h_tape h_reader h_friends (a0_dusk 0) (a0_fam 0 0) (a0_coming 0) h_acts h_seen h_pairs h_trials h_imageNow h_imageActs h_imageSeen v0, wC dT a0_coming (a0_dusk 0) (a0_fam 0 0) (a0_known 0) (pim a0_fam v0_fam.2.1) v0_coming, wD dT a0_dusk (a0_dpicks 0) (a0_dkeeps 0) v0_dusk, wR dT a0_dpicks v0_dpicks, wR dT a0_dkeeps v0_dkeeps, wK dT a0_known v0_known, wRw dT v0_fam.1 a0_fam v0_fam.2.2, [(b2, .inl (dT 1, 1, .inr (.inl u2)))]]) (fun u : (Nat → Nat → Nat) => (∀ k, k < v0_fam.1 → u k = a0_fam k)) (fun u : (Nat → Nat → Nat) => [wH dT a0 h_tape h_reader h_friends (a0_dusk 0) (u 0 0) (a0_coming 0) h_acts h_seen h_pairs h_trials h_imageNow h_imageActs h_imageSeen v0, wC dT a0_coming (a0_dusk 0) (u 0 0) (a0_known 0) (pim u res.2.2.2.2.2.1.2.1) res.2.1, wD dT a0_dusk (a0_dpicks 0) (a0_dkeeps 0) res.2.2.1, wR dT a0_dpicks res.2.2.2.1, wR dT a0_dkeeps res.2.2.2.2.1, wK dT a0_known v0_known, wRw dT res.2.2.2.2.2.1.1 u res.2.2.2.2.2.1.2.2, [(b2, .inl (dT 1, 1, .inr (.inl res.2.2.2.2.2.2)))]]) res.1 (8 * ((B6 - v0_fam.1))) (96 * ((B6 - v0_fam.1))) := by
  refine CWi.of (by decide) (Nat.le_of_ble_eq_true rfl) rfl ?_
  intro p e s m args below meth c A C EX htab
  have E := EX.1
  unfold f_L_round at hf
  have hm6 : v0_fam.1 ≤ v0_fam.1 := Nat.le_refl _
  have hb6 : v0_fam.1 - v0_fam.1 ≤ B6 - v0_fam.1 := by omega
  have hg6 : ∀ k, k < v0_fam.1 → a0_fam k = a0_fam k := fun _ _ => rfl
  refine wa_widen (k := (8 * ((v0_fam.1 - v0_fam.1)))) (n := (96 * ((v0_fam.1 - v0_fam.1)))) (Nat.zero_le _) (Nat.zero_le _) ?_
  refine wa_aload_n C 2 1 dL_round_0 rfl rfl ?_
  refine wa_iconst (v := 0) C 2 dL_round_1 rfl rfl ?_
  refine wa_aload_n C 0 3 dL_round_2 rfl rfl ?_
  refine wa_iload_n C 1 4 dL_round_3 rfl rfl ?_
  obtain ⟨q1, hq1, hf⟩ := bind_ex hf
  obtain ⟨g2, hf⟩ := grd_ex hf
  replace g2 := of_decide_eq_true g2
  refine wa_callMi (b1 := 0) (q1 := 0) (ci := 11) (As := [.int p1]) C (fun (ru3 : (Nat → Nat → Nat)) => [wH dT a0 h_tape h_reader h_friends (a0_dusk 0) (ru3 0 0) (a0_coming 0) h_acts h_seen h_pairs h_trials h_imageNow h_imageActs h_imageSeen v0, wC dT a0_coming (a0_dusk 0) (ru3 0 0) (a0_known 0) (pim ru3 q1.2.2.2.2.2.2.1) q1.2.1, wD dT a0_dusk (a0_dpicks 0) (a0_dkeeps 0) q1.2.2.1, wR dT a0_dpicks q1.2.2.2.1, wR dT a0_dkeeps q1.2.2.2.2.1, wK dT a0_known v0_known, wRw dT q1.2.2.2.2.2.1 ru3 q1.2.2.2.2.2.2.2, [(b2, .inl (dT 1, 1, .inr (.inl u2)))]]) 7 dL_round_4 rfl kv_L_64 (c_X11_round hq1) ⟨rfl, rfl⟩ ⟨Nat.le_of_ble_eq_true rfl, Nat.le_of_ble_eq_true rfl⟩ rfl rfl rfl [0, 1, 2, 3, 4, 5, 6] [7] [1, 2, 3, 4, 5, 6, 7, 0] rfl rfl rfl rfl (by decide) rfl (fun _ => rfl) rfl rfl ⟨by show (8 * ((v0_fam.1 - v0_fam.1))) + 8 * ((B6 - v0_fam.1)) ≤ 8 * ((B6 - v0_fam.1)); omega, by show (96 * ((v0_fam.1 - v0_fam.1))) + 96 * ((B6 - v0_fam.1)) ≤ 96 * ((B6 - v0_fam.1)); omega⟩ (Nat.le_of_ble_eq_true rfl) (fun ru3 hu => ?_)
  refine wa_widen (k := (8 * ((B6 - v0_fam.1)))) (n := (96 * ((B6 - v0_fam.1)))) (by omega) (by omega) ?_
  replace hg6 : ∀ k, k < v0_fam.1 → ru3 k = a0_fam k := fun k hk => (hu k (by omega)).trans (hg6 k hk)
  replace hm6 : v0_fam.1 ≤ q1.2.2.2.2.2.1 := by omega
  replace hb6 : q1.2.2.2.2.2.1 - v0_fam.1 ≤ B6 - v0_fam.1 := by omega
  refine wa_i2l C 8 dL_round_7 rfl ?_
  obtain ⟨g4, hf⟩ := grd_ex hf
  obtain ⟨y5, ey5, hf⟩ := bnd_ex hf
  refine wa_last (ws' := [wH dT a0 h_tape h_reader h_friends (a0_dusk 0) (ru3 0 0) (a0_coming 0) h_acts h_seen h_pairs h_trials h_imageNow h_imageActs h_imageSeen v0, wC dT a0_coming (a0_dusk 0) (ru3 0 0) (a0_known 0) (pim ru3 q1.2.2.2.2.2.2.1) q1.2.1, wD dT a0_dusk (a0_dpicks 0) (a0_dkeeps 0) q1.2.2.1, wR dT a0_dpicks q1.2.2.2.1, wR dT a0_dkeeps q1.2.2.2.2.1, wK dT a0_known v0_known, wRw dT q1.2.2.2.2.2.1 ru3 q1.2.2.2.2.2.2.2, [(b2, .inl (dT 1, 1, .inr (.inl y5)))]]) C 9 7 0 dL_round_8 rfl rfl rfl (vi_in g4) (by rw [ey5]; rfl) ?_
  refine wa_goto C 15 dL_round_9 rfl ?_
  refine wa_iconst (v := 0) C 16 dL_round_15 rfl rfl ?_
  cases hf
  exact wa_irm C (ru3) dL_round_16 hg6 rfl rfl (by show (8 * ((B6 - v0_fam.1))) ≤ 8 * ((B6 - v0_fam.1)); omega) (by show (96 * ((B6 - v0_fam.1))) ≤ 96 * ((B6 - v0_fam.1)); omega)
theorem kv_L_67 : KV "NewHousesLaw" 67 yX11_known cX11_known 3 (some .int) 2 := KV.mk q1213 q1214 q1215 q1 q1216 ⟨by decide, by decide, by decide +kernel⟩
def f_L_known (v0 : Ob) (v0_coming : CS) (v0_dusk : Ob) (v0_dpicks : Ob) (v0_dkeeps : Ob) (v0_known : Ob) (v0_fam : FS) (u3 : (Nat → Int64)) (B6 : Nat) (p1 : Int32) (p2 : Int32) : Option (Int32 × CS × Ob × Ob × Ob × Ob × FS × (Nat → Int64)) := (f_X11_known v0 v0_coming v0_dusk v0_dpicks v0_dkeeps v0_known v0_fam B6 p1 p2).bind (fun q1 => grd (decide (v0_fam.1 ≤ q1.2.2.2.2.2.2.1 ∧ q1.2.2.2.2.2.2.1 ≤ B6)) (grd (vi (0 : Int32) 1) (bnd (vp_updL u3 ((0 : Int32)).toNatClampNeg q1.1.toInt64) (fun y5 => some ((0 : Int32), q1.2.1, q1.2.2.1, q1.2.2.2.1, q1.2.2.2.2.1, q1.2.2.2.2.2.1, q1.2.2.2.2.2.2, y5)))))
set_option maxRecDepth 20000 in
theorem c_L_known {l : Launch} {D : va_G} {dT : Nat → ClassId} {aK aV : Nat → Nat} {a0 : Nat → Nat} {a0_coming : Nat → Nat} {a0_dusk : Nat → Nat} {a0_dpicks : Nat → Nat} {a0_dkeeps : Nat → Nat} {a0_known : Nat → Nat} {a0_fam : Nat → Nat → Nat} {b3 : Nat} {h_tape : Nat} {h_reader : Nat} {h_friends : Nat} {h_acts : Nat} {h_seen : Nat} {h_pairs : Nat} {h_trials : Nat} {h_imageNow : Nat} {h_imageActs : Nat} {h_imageSeen : Nat} {v0 : Ob} {v0_coming : CS} {v0_dusk : Ob} {v0_dpicks : Ob} {v0_dkeeps : Ob} {v0_known : Ob} {v0_fam : FS} {u3 : (Nat → Int64)} {B6 : Nat} {p1 : Int32} {p2 : Int32} {res : Int32 × CS × Ob × Ob × Ob × Ob × FS × (Nat → Int64)} (hf : f_L_known v0 v0_coming v0_dusk v0_dpicks v0_dkeeps v0_known v0_fam u3 B6 p1 p2 = some res) : CWi aK aV l yL_known cL_known 5 [((0 : Nat), (10 : Nat), (13 : Nat), (18 : Nat)), ((0 : Nat), (10 : Nat), (17 : Nat), (13 : Nat))] ({ frames := 9, cells := 8 * ((B6 - v0_fam.1)), slots := 96 * ((B6 - v0_fam.1)), locals := 197 } : Room) D dT [.ref (a0 0), .int p1, .int p2, .ref b3] ([wH dT a0 h_tape h_reader h_friends (a0_dusk 0) (a0_fam 0 0) (a0_coming 0) h_acts h_seen h_pairs h_trials h_imageNow h_imageActs h_imageSeen v0, wC dT a0_coming (a0_dusk 0) (a0_fam 0 0) (a0_known 0) (pim a0_fam v0_fam.2.1) v0_coming, wD dT a0_dusk (a0_dpicks 0) (a0_dkeeps 0) v0_dusk, wR dT a0_dpicks v0_dpicks, wR dT a0_dkeeps v0_dkeeps, wK dT a0_known v0_known, wRw dT v0_fam.1 a0_fam v0_fam.2.2, [(b3, .inl (dT 1, 1, .inr (.inl u3)))]]) (fun u : (Nat → Nat → Nat) => (∀ k, k < v0_fam.1 → u k = a0_fam k)) (fun u : (Nat → Nat → Nat) => [wH dT a0 h_tape h_reader h_friends (a0_dusk 0) (u 0 0) (a0_coming 0) h_acts h_seen h_pairs h_trials h_imageNow h_imageActs h_imageSeen v0, wC dT a0_coming (a0_dusk 0) (u 0 0) (a0_known 0) (pim u res.2.2.2.2.2.2.1.2.1) res.2.1, wD dT a0_dusk (a0_dpicks 0) (a0_dkeeps 0) res.2.2.1, wR dT a0_dpicks res.2.2.2.1, wR dT a0_dkeeps res.2.2.2.2.1, wK dT a0_known res.2.2.2.2.2.1, wRw dT res.2.2.2.2.2.2.1.1 u res.2.2.2.2.2.2.1.2.2, [(b3, .inl (dT 1, 1, .inr (.inl res.2.2.2.2.2.2.2)))]]) res.1 (8 * ((B6 - v0_fam.1))) (96 * ((B6 - v0_fam.1))) := by
  refine CWi.of (by decide) (Nat.le_of_ble_eq_true rfl) rfl ?_
  intro p e s m args below meth c A C EX htab
  have E := EX.1
  unfold f_L_known at hf
  have hm6 : v0_fam.1 ≤ v0_fam.1 := Nat.le_refl _
  have hb6 : v0_fam.1 - v0_fam.1 ≤ B6 - v0_fam.1 := by omega
  have hg6 : ∀ k, k < v0_fam.1 → a0_fam k = a0_fam k := fun _ _ => rfl
  refine wa_widen (k := (8 * ((v0_fam.1 - v0_fam.1)))) (n := (96 * ((v0_fam.1 - v0_fam.1)))) (Nat.zero_le _) (Nat.zero_le _) ?_
  refine wa_aload_n C 3 1 dL_known_0 rfl rfl ?_
  refine wa_iconst (v := 0) C 2 dL_known_1 rfl rfl ?_
  refine wa_aload_n C 0 3 dL_known_2 rfl rfl ?_
  refine wa_iload_n C 1 4 dL_known_3 rfl rfl ?_
  refine wa_iload_n C 2 5 dL_known_4 rfl rfl ?_
  obtain ⟨q1, hq1, hf⟩ := bind_ex hf
  obtain ⟨g2, hf⟩ := grd_ex hf
  replace g2 := of_decide_eq_true g2
  refine wa_callMi (b1 := 0) (q1 := 0) (ci := 11) (As := [.int p1, .int p2]) C (fun (ru3 : (Nat → Nat → Nat)) => [wH dT a0 h_tape h_reader h_friends (a0_dusk 0) (ru3 0 0) (a0_coming 0) h_acts h_seen h_pairs h_trials h_imageNow h_imageActs h_imageSeen v0, wC dT a0_coming (a0_dusk 0) (ru3 0 0) (a0_known 0) (pim ru3 q1.2.2.2.2.2.2.2.1) q1.2.1, wD dT a0_dusk (a0_dpicks 0) (a0_dkeeps 0) q1.2.2.1, wR dT a0_dpicks q1.2.2.2.1, wR dT a0_dkeeps q1.2.2.2.2.1, wK dT a0_known q1.2.2.2.2.2.1, wRw dT q1.2.2.2.2.2.2.1 ru3 q1.2.2.2.2.2.2.2.2, [(b3, .inl (dT 1, 1, .inr (.inl u3)))]]) 8 dL_known_5 rfl kv_L_67 (c_X11_known hq1) ⟨rfl, rfl⟩ ⟨Nat.le_of_ble_eq_true rfl, Nat.le_of_ble_eq_true rfl⟩ rfl rfl rfl [0, 1, 2, 3, 4, 5, 6] [7] [1, 2, 3, 4, 5, 6, 7, 0] rfl rfl rfl rfl (by decide) rfl (fun _ => rfl) rfl rfl ⟨by show (8 * ((v0_fam.1 - v0_fam.1))) + 8 * ((B6 - v0_fam.1)) ≤ 8 * ((B6 - v0_fam.1)); omega, by show (96 * ((v0_fam.1 - v0_fam.1))) + 96 * ((B6 - v0_fam.1)) ≤ 96 * ((B6 - v0_fam.1)); omega⟩ (Nat.le_of_ble_eq_true rfl) (fun ru3 hu => ?_)
  refine wa_widen (k := (8 * ((B6 - v0_fam.1)))) (n := (96 * ((B6 - v0_fam.1)))) (by omega) (by omega) ?_
  replace hg6 : ∀ k, k < v0_fam.1 → ru3 k = a0_fam k := fun k hk => (hu k (by omega)).trans (hg6 k hk)
  replace hm6 : v0_fam.1 ≤ q1.2.2.2.2.2.2.1 := by omega
  replace hb6 : q1.2.2.2.2.2.2.1 - v0_fam.1 ≤ B6 - v0_fam.1 := by omega
  refine wa_i2l C 9 dL_known_8 rfl ?_
  obtain ⟨g4, hf⟩ := grd_ex hf
  obtain ⟨y5, ey5, hf⟩ := bnd_ex hf
  refine wa_last (ws' := [wH dT a0 h_tape h_reader h_friends (a0_dusk 0) (ru3 0 0) (a0_coming 0) h_acts h_seen h_pairs h_trials h_imageNow h_imageActs h_imageSeen v0, wC dT a0_coming (a0_dusk 0) (ru3 0 0) (a0_known 0) (pim ru3 q1.2.2.2.2.2.2.2.1) q1.2.1, wD dT a0_dusk (a0_dpicks 0) (a0_dkeeps 0) q1.2.2.1, wR dT a0_dpicks q1.2.2.2.1, wR dT a0_dkeeps q1.2.2.2.2.1, wK dT a0_known q1.2.2.2.2.2.1, wRw dT q1.2.2.2.2.2.2.1 ru3 q1.2.2.2.2.2.2.2.2, [(b3, .inl (dT 1, 1, .inr (.inl y5)))]]) C 10 7 0 dL_known_9 rfl rfl rfl (vi_in g4) (by rw [ey5]; rfl) ?_
  refine wa_goto C 21 dL_known_10 rfl ?_
  refine wa_iconst (v := 0) C 22 dL_known_21 rfl rfl ?_
  cases hf
  exact wa_irm C (ru3) dL_known_22 hg6 rfl rfl (by show (8 * ((B6 - v0_fam.1))) ≤ 8 * ((B6 - v0_fam.1)); omega) (by show (96 * ((B6 - v0_fam.1))) ≤ 96 * ((B6 - v0_fam.1)); omega)
theorem kv_L_70 : KV "NewHousesLaw" 70 yX11_toMeet cX11_toMeet 3 (some .int) 2 := KV.mk q1228 q1229 q1230 q1 q1231 ⟨by decide, by decide, by decide +kernel⟩
def f_L_toMeet (v0 : Ob) (v0_coming : CS) (v0_dusk : Ob) (v0_dpicks : Ob) (v0_dkeeps : Ob) (v0_known : Ob) (v0_fam : FS) (v0_trials : Ob) (v0_trial : Ob) (v0_tknown : Ob) (u3 : (Nat → Int64)) (B6 : Nat) (p1 : Int32) (p2 : Int32) : Option (Int32 × CS × Ob × Ob × Ob × FS × Ob × (Nat → Int64)) := (f_X11_toMeet v0 v0_coming v0_dusk v0_dpicks v0_dkeeps v0_known v0_fam v0_trials v0_trial v0_tknown B6 p1 p2).bind (fun q1 => grd (decide (v0_fam.1 ≤ q1.2.2.2.2.2.1.1 ∧ q1.2.2.2.2.2.1.1 ≤ B6)) (grd (vi (0 : Int32) 1) (bnd (vp_updL u3 ((0 : Int32)).toNatClampNeg q1.1.toInt64) (fun y5 => some ((0 : Int32), q1.2.1, q1.2.2.1, q1.2.2.2.1, q1.2.2.2.2.1, q1.2.2.2.2.2.1, q1.2.2.2.2.2.2, y5)))))
set_option maxRecDepth 20000 in
theorem c_L_toMeet {l : Launch} {D : va_G} {dT : Nat → ClassId} {aK aV : Nat → Nat} {a0 : Nat → Nat} {a0_coming : Nat → Nat} {a0_dusk : Nat → Nat} {a0_dpicks : Nat → Nat} {a0_dkeeps : Nat → Nat} {a0_known : Nat → Nat} {a0_fam : Nat → Nat → Nat} {a0_trials : Nat → Nat} {a0_trial : Nat → Nat} {a0_tknown : Nat → Nat} {b3 : Nat} {h_tape : Nat} {h_reader : Nat} {h_friends : Nat} {h_acts : Nat} {h_seen : Nat} {h_pairs : Nat} {h_imageNow : Nat} {h_imageActs : Nat} {h_imageSeen : Nat} {v0 : Ob} {v0_coming : CS} {v0_dusk : Ob} {v0_dpicks : Ob} {v0_dkeeps : Ob} {v0_known : Ob} {v0_fam : FS} {v0_trials : Ob} {v0_trial : Ob} {v0_tknown : Ob} {u3 : (Nat → Int64)} {B6 : Nat} {p1 : Int32} {p2 : Int32} {res : Int32 × CS × Ob × Ob × Ob × FS × Ob × (Nat → Int64)} (hf : f_L_toMeet v0 v0_coming v0_dusk v0_dpicks v0_dkeeps v0_known v0_fam v0_trials v0_trial v0_tknown u3 B6 p1 p2 = some res) : CWi aK aV l yL_toMeet cL_toMeet 5 [((0 : Nat), (10 : Nat), (13 : Nat), (18 : Nat))] ({ frames := 9, cells := 8 * ((B6 - v0_fam.1)), slots := 96 * ((B6 - v0_fam.1)), locals := 205 } : Room) D dT [.ref (a0 0), .int p1, .int p2, .ref b3] ([wH dT a0 h_tape h_reader h_friends (a0_dusk 0) (a0_fam 0 0) (a0_coming 0) h_acts h_seen h_pairs (a0_trials 0) h_imageNow h_imageActs h_imageSeen v0, wC dT a0_coming (a0_dusk 0) (a0_fam 0 0) (a0_known 0) (pim a0_fam v0_fam.2.1) v0_coming, wD dT a0_dusk (a0_dpicks 0) (a0_dkeeps 0) v0_dusk, wR dT a0_dpicks v0_dpicks, wR dT a0_dkeeps v0_dkeeps, wK dT a0_known v0_known, wRw dT v0_fam.1 a0_fam v0_fam.2.2, wT dT a0_trials (a0_dusk 0) (a0_trial 0) (a0_tknown 0) v0_trials, wV dT a0_trial v0_trial, wK dT a0_tknown v0_tknown, [(b3, .inl (dT 1, 1, .inr (.inl u3)))]]) (fun u : (Nat → Nat → Nat) => (∀ k, k < v0_fam.1 → u k = a0_fam k)) (fun u : (Nat → Nat → Nat) => [wH dT a0 h_tape h_reader h_friends (a0_dusk 0) (u 0 0) (a0_coming 0) h_acts h_seen h_pairs (a0_trials 0) h_imageNow h_imageActs h_imageSeen v0, wC dT a0_coming (a0_dusk 0) (u 0 0) (a0_known 0) (pim u res.2.2.2.2.2.1.2.1) res.2.1, wD dT a0_dusk (a0_dpicks 0) (a0_dkeeps 0) res.2.2.1, wR dT a0_dpicks res.2.2.2.1, wR dT a0_dkeeps res.2.2.2.2.1, wK dT a0_known v0_known, wRw dT res.2.2.2.2.2.1.1 u res.2.2.2.2.2.1.2.2, wT dT a0_trials (a0_dusk 0) (a0_trial 0) (a0_tknown 0) v0_trials, wV dT a0_trial res.2.2.2.2.2.2.1, wK dT a0_tknown v0_tknown, [(b3, .inl (dT 1, 1, .inr (.inl res.2.2.2.2.2.2.2)))]]) res.1 (8 * ((B6 - v0_fam.1))) (96 * ((B6 - v0_fam.1))) := by
  refine CWi.of (by decide) (Nat.le_of_ble_eq_true rfl) rfl ?_
  intro p e s m args below meth c A C EX htab
  have E := EX.1
  unfold f_L_toMeet at hf
  have hm6 : v0_fam.1 ≤ v0_fam.1 := Nat.le_refl _
  have hb6 : v0_fam.1 - v0_fam.1 ≤ B6 - v0_fam.1 := by omega
  have hg6 : ∀ k, k < v0_fam.1 → a0_fam k = a0_fam k := fun _ _ => rfl
  refine wa_widen (k := (8 * ((v0_fam.1 - v0_fam.1)))) (n := (96 * ((v0_fam.1 - v0_fam.1)))) (Nat.zero_le _) (Nat.zero_le _) ?_
  refine wa_aload_n C 3 1 dL_toMeet_0 rfl rfl ?_
  refine wa_iconst (v := 0) C 2 dL_toMeet_1 rfl rfl ?_
  refine wa_aload_n C 0 3 dL_toMeet_2 rfl rfl ?_
  refine wa_iload_n C 1 4 dL_toMeet_3 rfl rfl ?_
  refine wa_iload_n C 2 5 dL_toMeet_4 rfl rfl ?_
  obtain ⟨q1, hq1, hf⟩ := bind_ex hf
  obtain ⟨g2, hf⟩ := grd_ex hf
  replace g2 := of_decide_eq_true g2
  refine wa_callMi (b1 := 0) (q1 := 0) (ci := 11) (As := [.int p1, .int p2]) C (fun (ru3 : (Nat → Nat → Nat)) => [wH dT a0 h_tape h_reader h_friends (a0_dusk 0) (ru3 0 0) (a0_coming 0) h_acts h_seen h_pairs (a0_trials 0) h_imageNow h_imageActs h_imageSeen v0, wC dT a0_coming (a0_dusk 0) (ru3 0 0) (a0_known 0) (pim ru3 q1.2.2.2.2.2.1.2.1) q1.2.1, wD dT a0_dusk (a0_dpicks 0) (a0_dkeeps 0) q1.2.2.1, wR dT a0_dpicks q1.2.2.2.1, wR dT a0_dkeeps q1.2.2.2.2.1, wK dT a0_known v0_known, wRw dT q1.2.2.2.2.2.1.1 ru3 q1.2.2.2.2.2.1.2.2, wT dT a0_trials (a0_dusk 0) (a0_trial 0) (a0_tknown 0) v0_trials, wV dT a0_trial q1.2.2.2.2.2.2, wK dT a0_tknown v0_tknown, [(b3, .inl (dT 1, 1, .inr (.inl u3)))]]) 8 dL_toMeet_5 rfl kv_L_70 (c_X11_toMeet hq1) ⟨rfl, rfl⟩ ⟨Nat.le_of_ble_eq_true rfl, Nat.le_of_ble_eq_true rfl⟩ rfl rfl rfl [0, 1, 2, 3, 4, 5, 6, 7, 8, 9] [10] [1, 2, 3, 4, 5, 6, 7, 8, 9, 10, 0] rfl rfl rfl rfl (by decide) rfl (fun _ => rfl) rfl rfl ⟨by show (8 * ((v0_fam.1 - v0_fam.1))) + 8 * ((B6 - v0_fam.1)) ≤ 8 * ((B6 - v0_fam.1)); omega, by show (96 * ((v0_fam.1 - v0_fam.1))) + 96 * ((B6 - v0_fam.1)) ≤ 96 * ((B6 - v0_fam.1)); omega⟩ (Nat.le_of_ble_eq_true rfl) (fun ru3 hu => ?_)
  refine wa_widen (k := (8 * ((B6 - v0_fam.1)))) (n := (96 * ((B6 - v0_fam.1)))) (by omega) (by omega) ?_
  replace hg6 : ∀ k, k < v0_fam.1 → ru3 k = a0_fam k := fun k hk => (hu k (by omega)).trans (hg6 k hk)
  replace hm6 : v0_fam.1 ≤ q1.2.2.2.2.2.1.1 := by omega
  replace hb6 : q1.2.2.2.2.2.1.1 - v0_fam.1 ≤ B6 - v0_fam.1 := by omega
  refine wa_i2l C 9 dL_toMeet_8 rfl ?_
  obtain ⟨g4, hf⟩ := grd_ex hf
  obtain ⟨y5, ey5, hf⟩ := bnd_ex hf
  refine wa_last (ws' := [wH dT a0 h_tape h_reader h_friends (a0_dusk 0) (ru3 0 0) (a0_coming 0) h_acts h_seen h_pairs (a0_trials 0) h_imageNow h_imageActs h_imageSeen v0, wC dT a0_coming (a0_dusk 0) (ru3 0 0) (a0_known 0) (pim ru3 q1.2.2.2.2.2.1.2.1) q1.2.1, wD dT a0_dusk (a0_dpicks 0) (a0_dkeeps 0) q1.2.2.1, wR dT a0_dpicks q1.2.2.2.1, wR dT a0_dkeeps q1.2.2.2.2.1, wK dT a0_known v0_known, wRw dT q1.2.2.2.2.2.1.1 ru3 q1.2.2.2.2.2.1.2.2, wT dT a0_trials (a0_dusk 0) (a0_trial 0) (a0_tknown 0) v0_trials, wV dT a0_trial q1.2.2.2.2.2.2, wK dT a0_tknown v0_tknown, [(b3, .inl (dT 1, 1, .inr (.inl y5)))]]) C 10 10 0 dL_toMeet_9 rfl rfl rfl (vi_in g4) (by rw [ey5]; rfl) ?_
  refine wa_goto C 17 dL_toMeet_10 rfl ?_
  refine wa_iconst (v := 0) C 18 dL_toMeet_17 rfl rfl ?_
  cases hf
  exact wa_irm C (ru3) dL_toMeet_18 hg6 rfl rfl (by show (8 * ((B6 - v0_fam.1))) ≤ 8 * ((B6 - v0_fam.1)); omega) (by show (96 * ((B6 - v0_fam.1))) ≤ 96 * ((B6 - v0_fam.1)); omega)
theorem kv_L_73 : KV "NewHousesLaw" 73 yX11_partners cX11_partners 2 (some .int) 1 := KV.mk q1246 q1247 q1248 q1 q1249 ⟨by decide, by decide, by decide +kernel⟩
def f_L_partners (v0 : Ob) (v0_fam : FS) (v0_pairs : Ob) (u2 : (Nat → Int64)) (p1 : Int32) : Option (Int32 × (Nat → Int64)) := (f_X11_partners v0 v0_fam v0_pairs p1).bind (fun q1 => grd (vi (0 : Int32) 1) (bnd (vp_updL u2 ((0 : Int32)).toNatClampNeg q1.toInt64) (fun y4 => some ((0 : Int32), y4))))
set_option maxRecDepth 20000 in
theorem c_L_partners {l : Launch} {D : va_G} {dT : Nat → ClassId} {aK aV : Nat → Nat} {a0 : Nat → Nat} {a0_fam : Nat → Nat → Nat} {a0_pairs : Nat → Nat} {b2 : Nat} {h_tape : Nat} {h_reader : Nat} {h_friends : Nat} {h_dusk : Nat} {h_coming : Nat} {h_acts : Nat} {h_seen : Nat} {h_trials : Nat} {h_imageNow : Nat} {h_imageActs : Nat} {h_imageSeen : Nat} {v0 : Ob} {v0_fam : FS} {v0_pairs : Ob} {u2 : (Nat → Int64)} {p1 : Int32} {res : Int32 × (Nat → Int64)} (hf : f_L_partners v0 v0_fam v0_pairs u2 p1 = some res) : CWi aK aV l yL_partners cL_partners 4 [((0 : Nat), (9 : Nat), (12 : Nat), (18 : Nat))] ({ frames := 6, cells := 0, slots := 0, locals := 127 } : Room) D dT [.ref (a0 0), .int p1, .ref b2] ([wH dT a0 h_tape h_reader h_friends h_dusk (a0_fam 0 0) h_coming h_acts h_seen (a0_pairs 0) h_trials h_imageNow h_imageActs h_imageSeen v0, wRw dT v0_fam.1 a0_fam v0_fam.2.2, wP dT a0_pairs v0_pairs, [(b2, .inl (dT 1, 1, .inr (.inl u2)))]]) (fun _ : Unit => True) (fun _ : Unit => [wH dT a0 h_tape h_reader h_friends h_dusk (a0_fam 0 0) h_coming h_acts h_seen (a0_pairs 0) h_trials h_imageNow h_imageActs h_imageSeen v0, wRw dT v0_fam.1 a0_fam v0_fam.2.2, wP dT a0_pairs v0_pairs, [(b2, .inl (dT 1, 1, .inr (.inl res.2)))]]) res.1 0 0 := by
  refine CWi.of (by decide) (Nat.le_of_ble_eq_true rfl) rfl ?_
  intro p e s m args below meth c A C EX htab
  have E := EX.1
  unfold f_L_partners at hf
  refine wa_aload_n C 2 1 dL_partners_0 rfl rfl ?_
  refine wa_iconst (v := 0) C 2 dL_partners_1 rfl rfl ?_
  refine wa_aload_n C 0 3 dL_partners_2 rfl rfl ?_
  refine wa_iload_n C 1 4 dL_partners_3 rfl rfl ?_
  obtain ⟨q1, hq1, hf⟩ := bind_ex hf
  refine wa_callVi (b1 := 0) (q1 := 0) (ci := 11) (ws' := [wH dT a0 h_tape h_reader h_friends h_dusk (a0_fam 0 0) h_coming h_acts h_seen (a0_pairs 0) h_trials h_imageNow h_imageActs h_imageSeen v0, wRw dT v0_fam.1 a0_fam v0_fam.2.2, wP dT a0_pairs v0_pairs, [(b2, .inl (dT 1, 1, .inr (.inl u2)))]]) (As := [.int p1]) C 7 dL_partners_4 rfl kv_L_73 (c_X11_partners hq1) ⟨rfl, rfl⟩ ⟨Nat.le_of_ble_eq_true rfl, Nat.le_of_ble_eq_true rfl⟩ rfl rfl rfl [0, 1, 2] [3] [1, 2, 3, 0] rfl rfl rfl rfl (by decide) rfl rfl rfl rfl ⟨Nat.zero_le _, Nat.zero_le _⟩ (Nat.le_of_ble_eq_true rfl) ?_
  refine wa_i2l C 8 dL_partners_7 rfl ?_
  obtain ⟨g3, hf⟩ := grd_ex hf
  obtain ⟨y4, ey4, hf⟩ := bnd_ex hf
  refine wa_last (ws' := [wH dT a0 h_tape h_reader h_friends h_dusk (a0_fam 0 0) h_coming h_acts h_seen (a0_pairs 0) h_trials h_imageNow h_imageActs h_imageSeen v0, wRw dT v0_fam.1 a0_fam v0_fam.2.2, wP dT a0_pairs v0_pairs, [(b2, .inl (dT 1, 1, .inr (.inl y4)))]]) C 9 3 0 dL_partners_8 rfl rfl rfl (vi_in g3) (by rw [ey4]; rfl) ?_
  refine wa_goto C 15 dL_partners_9 rfl ?_
  refine wa_iconst (v := 0) C 16 dL_partners_15 rfl rfl ?_
  cases hf
  exact wa_irm C () dL_partners_16 trivial rfl rfl (Nat.zero_le _) (Nat.zero_le _)
theorem kv_L_76 : KV "NewHousesLaw" 76 yX11_halves cX11_halves 3 (some .int) 1 := KV.mk q1261 q1262 q1263 q1 q1264 ⟨by decide, by decide, by decide +kernel⟩
def f_L_halves (v0 : Ob) (v0_fam : FS) (v0_pairs : Ob) (u2 : (Nat → Int64)) (p1 : Int32) : Option (Int32 × (Nat → Int64)) := (f_X11_halves v0 v0_fam v0_pairs p1).bind (fun q1 => grd (vi (0 : Int32) 1) (bnd (vp_updL u2 ((0 : Int32)).toNatClampNeg q1.toInt64) (fun y4 => some ((0 : Int32), y4))))
set_option maxRecDepth 20000 in
theorem c_L_halves {l : Launch} {D : va_G} {dT : Nat → ClassId} {aK aV : Nat → Nat} {a0 : Nat → Nat} {a0_fam : Nat → Nat → Nat} {a0_pairs : Nat → Nat} {b2 : Nat} {h_tape : Nat} {h_reader : Nat} {h_friends : Nat} {h_dusk : Nat} {h_coming : Nat} {h_acts : Nat} {h_seen : Nat} {h_trials : Nat} {h_imageNow : Nat} {h_imageActs : Nat} {h_imageSeen : Nat} {v0 : Ob} {v0_fam : FS} {v0_pairs : Ob} {u2 : (Nat → Int64)} {p1 : Int32} {res : Int32 × (Nat → Int64)} (hf : f_L_halves v0 v0_fam v0_pairs u2 p1 = some res) : CWi aK aV l yL_halves cL_halves 4 [((0 : Nat), (9 : Nat), (12 : Nat), (18 : Nat))] ({ frames := 6, cells := 0, slots := 0, locals := 131 } : Room) D dT [.ref (a0 0), .int p1, .ref b2] ([wH dT a0 h_tape h_reader h_friends h_dusk (a0_fam 0 0) h_coming h_acts h_seen (a0_pairs 0) h_trials h_imageNow h_imageActs h_imageSeen v0, wRw dT v0_fam.1 a0_fam v0_fam.2.2, wP dT a0_pairs v0_pairs, [(b2, .inl (dT 1, 1, .inr (.inl u2)))]]) (fun _ : Unit => True) (fun _ : Unit => [wH dT a0 h_tape h_reader h_friends h_dusk (a0_fam 0 0) h_coming h_acts h_seen (a0_pairs 0) h_trials h_imageNow h_imageActs h_imageSeen v0, wRw dT v0_fam.1 a0_fam v0_fam.2.2, wP dT a0_pairs v0_pairs, [(b2, .inl (dT 1, 1, .inr (.inl res.2)))]]) res.1 0 0 := by
  refine CWi.of (by decide) (Nat.le_of_ble_eq_true rfl) rfl ?_
  intro p e s m args below meth c A C EX htab
  have E := EX.1
  unfold f_L_halves at hf
  refine wa_aload_n C 2 1 dL_halves_0 rfl rfl ?_
  refine wa_iconst (v := 0) C 2 dL_halves_1 rfl rfl ?_
  refine wa_aload_n C 0 3 dL_halves_2 rfl rfl ?_
  refine wa_iload_n C 1 4 dL_halves_3 rfl rfl ?_
  obtain ⟨q1, hq1, hf⟩ := bind_ex hf
  refine wa_callVi (b1 := 0) (q1 := 0) (ci := 11) (ws' := [wH dT a0 h_tape h_reader h_friends h_dusk (a0_fam 0 0) h_coming h_acts h_seen (a0_pairs 0) h_trials h_imageNow h_imageActs h_imageSeen v0, wRw dT v0_fam.1 a0_fam v0_fam.2.2, wP dT a0_pairs v0_pairs, [(b2, .inl (dT 1, 1, .inr (.inl u2)))]]) (As := [.int p1]) C 7 dL_halves_4 rfl kv_L_76 (c_X11_halves hq1) ⟨rfl, rfl⟩ ⟨Nat.le_of_ble_eq_true rfl, Nat.le_of_ble_eq_true rfl⟩ rfl rfl rfl [0, 1, 2] [3] [1, 2, 3, 0] rfl rfl rfl rfl (by decide) rfl rfl rfl rfl ⟨Nat.zero_le _, Nat.zero_le _⟩ (Nat.le_of_ble_eq_true rfl) ?_
  refine wa_i2l C 8 dL_halves_7 rfl ?_
  obtain ⟨g3, hf⟩ := grd_ex hf
  obtain ⟨y4, ey4, hf⟩ := bnd_ex hf
  refine wa_last (ws' := [wH dT a0 h_tape h_reader h_friends h_dusk (a0_fam 0 0) h_coming h_acts h_seen (a0_pairs 0) h_trials h_imageNow h_imageActs h_imageSeen v0, wRw dT v0_fam.1 a0_fam v0_fam.2.2, wP dT a0_pairs v0_pairs, [(b2, .inl (dT 1, 1, .inr (.inl y4)))]]) C 9 3 0 dL_halves_8 rfl rfl rfl (vi_in g3) (by rw [ey4]; rfl) ?_
  refine wa_goto C 15 dL_halves_9 rfl ?_
  refine wa_iconst (v := 0) C 16 dL_halves_15 rfl rfl ?_
  cases hf
  exact wa_irm C () dL_halves_16 trivial rfl rfl (Nat.zero_le _) (Nat.zero_le _)
theorem kv_L_79 : KV "NewHousesLaw" 79 yX11_chain cX11_chain 3 (some .int) 2 := KV.mk q1277 q1278 q1279 q1 q1280 ⟨by decide, by decide, by decide +kernel⟩
def f_L_chain (v0 : Ob) (v0_friends : Ob) (v0_fam : FS) (u3 : (Nat → Int64)) (p1 : Int32) (p2 : Int32) : Option (Int32 × (Nat → Int64)) := (f_X11_chain v0 v0_friends v0_fam p1 p2).bind (fun q1 => grd (vi (0 : Int32) 1) (bnd (vp_updL u3 ((0 : Int32)).toNatClampNeg q1.toInt64) (fun y4 => some ((0 : Int32), y4))))
set_option maxRecDepth 20000 in
theorem c_L_chain {l : Launch} {D : va_G} {dT : Nat → ClassId} {aK aV : Nat → Nat} {a0 : Nat → Nat} {a0_friends : Nat → Nat} {a0_fam : Nat → Nat → Nat} {b3 : Nat} {h_tape : Nat} {h_reader : Nat} {h_dusk : Nat} {h_coming : Nat} {h_acts : Nat} {h_seen : Nat} {h_pairs : Nat} {h_trials : Nat} {h_imageNow : Nat} {h_imageActs : Nat} {h_imageSeen : Nat} {v0 : Ob} {v0_friends : Ob} {v0_fam : FS} {u3 : (Nat → Int64)} {p1 : Int32} {p2 : Int32} {res : Int32 × (Nat → Int64)} (hf : f_L_chain v0 v0_friends v0_fam u3 p1 p2 = some res) : CWi aK aV l yL_chain cL_chain 5 [((0 : Nat), (10 : Nat), (13 : Nat), (18 : Nat))] ({ frames := 5, cells := 0, slots := 0, locals := 103 } : Room) D dT [.ref (a0 0), .int p1, .int p2, .ref b3] ([wH dT a0 h_tape h_reader (a0_friends 0) h_dusk (a0_fam 0 0) h_coming h_acts h_seen h_pairs h_trials h_imageNow h_imageActs h_imageSeen v0, wF dT a0_friends v0_friends, wRw dT v0_fam.1 a0_fam v0_fam.2.2, [(b3, .inl (dT 1, 1, .inr (.inl u3)))]]) (fun _ : Unit => True) (fun _ : Unit => [wH dT a0 h_tape h_reader (a0_friends 0) h_dusk (a0_fam 0 0) h_coming h_acts h_seen h_pairs h_trials h_imageNow h_imageActs h_imageSeen v0, wF dT a0_friends v0_friends, wRw dT v0_fam.1 a0_fam v0_fam.2.2, [(b3, .inl (dT 1, 1, .inr (.inl res.2)))]]) res.1 0 0 := by
  refine CWi.of (by decide) (Nat.le_of_ble_eq_true rfl) rfl ?_
  intro p e s m args below meth c A C EX htab
  have E := EX.1
  unfold f_L_chain at hf
  refine wa_aload_n C 3 1 dL_chain_0 rfl rfl ?_
  refine wa_iconst (v := 0) C 2 dL_chain_1 rfl rfl ?_
  refine wa_aload_n C 0 3 dL_chain_2 rfl rfl ?_
  refine wa_iload_n C 1 4 dL_chain_3 rfl rfl ?_
  refine wa_iload_n C 2 5 dL_chain_4 rfl rfl ?_
  obtain ⟨q1, hq1, hf⟩ := bind_ex hf
  refine wa_callVi (b1 := 0) (q1 := 0) (ci := 11) (ws' := [wH dT a0 h_tape h_reader (a0_friends 0) h_dusk (a0_fam 0 0) h_coming h_acts h_seen h_pairs h_trials h_imageNow h_imageActs h_imageSeen v0, wF dT a0_friends v0_friends, wRw dT v0_fam.1 a0_fam v0_fam.2.2, [(b3, .inl (dT 1, 1, .inr (.inl u3)))]]) (As := [.int p1, .int p2]) C 8 dL_chain_5 rfl kv_L_79 (c_X11_chain hq1) ⟨rfl, rfl⟩ ⟨Nat.le_of_ble_eq_true rfl, Nat.le_of_ble_eq_true rfl⟩ rfl rfl rfl [0, 1, 2] [3] [1, 2, 3, 0] rfl rfl rfl rfl (by decide) rfl rfl rfl rfl ⟨Nat.zero_le _, Nat.zero_le _⟩ (Nat.le_of_ble_eq_true rfl) ?_
  refine wa_i2l C 9 dL_chain_8 rfl ?_
  obtain ⟨g3, hf⟩ := grd_ex hf
  obtain ⟨y4, ey4, hf⟩ := bnd_ex hf
  refine wa_last (ws' := [wH dT a0 h_tape h_reader (a0_friends 0) h_dusk (a0_fam 0 0) h_coming h_acts h_seen h_pairs h_trials h_imageNow h_imageActs h_imageSeen v0, wF dT a0_friends v0_friends, wRw dT v0_fam.1 a0_fam v0_fam.2.2, [(b3, .inl (dT 1, 1, .inr (.inl y4)))]]) C 10 3 0 dL_chain_9 rfl rfl rfl (vi_in g3) (by rw [ey4]; rfl) ?_
  refine wa_goto C 17 dL_chain_10 rfl ?_
  refine wa_iconst (v := 0) C 18 dL_chain_17 rfl rfl ?_
  cases hf
  exact wa_irm C () dL_chain_18 trivial rfl rfl (Nat.zero_le _) (Nat.zero_le _)
theorem kv_L_82 : KV "NewHousesLaw" 82 yX11_see cX11_see 4 (some .int) 3 := KV.mk q1292 q1293 q1294 q1 q1295 ⟨by decide, by decide, by decide +kernel⟩
def f_L_see (v0 : Ob) (v0_fam : FS) (v0_seen : Ob) (u4 : (Nat → Int64)) (p1 : Int32) (p2 : Int32) (p3 : Int32) : Option (Int32 × Ob × Ob × (Nat → Int64)) := (f_X11_see v0 v0_fam v0_seen p1 p2 p3).bind (fun q1 => grd (vi (0 : Int32) 1) (bnd (vp_updL u4 ((0 : Int32)).toNatClampNeg q1.1.toInt64) (fun y4 => some ((0 : Int32), q1.2.1, q1.2.2, y4))))
set_option maxRecDepth 20000 in
theorem c_L_see {l : Launch} {D : va_G} {dT : Nat → ClassId} {aK aV : Nat → Nat} {a0 : Nat → Nat} {a0_fam : Nat → Nat → Nat} {a0_seen : Nat → Nat} {b4 : Nat} {h_tape : Nat} {h_reader : Nat} {h_friends : Nat} {h_dusk : Nat} {h_coming : Nat} {h_acts : Nat} {h_pairs : Nat} {h_trials : Nat} {h_imageNow : Nat} {h_imageActs : Nat} {h_imageSeen : Nat} {v0 : Ob} {v0_fam : FS} {v0_seen : Ob} {u4 : (Nat → Int64)} {p1 : Int32} {p2 : Int32} {p3 : Int32} {res : Int32 × Ob × Ob × (Nat → Int64)} (hf : f_L_see v0 v0_fam v0_seen u4 p1 p2 p3 = some res) : CWi aK aV l yL_see cL_see 6 [((0 : Nat), (12 : Nat), (15 : Nat), (18 : Nat))] ({ frames := 5, cells := 0, slots := 0, locals := 104 } : Room) D dT [.ref (a0 0), .int p1, .int p2, .int p3, .ref b4] ([wH dT a0 h_tape h_reader h_friends h_dusk (a0_fam 0 0) h_coming h_acts (a0_seen 0) h_pairs h_trials h_imageNow h_imageActs h_imageSeen v0, wRw dT v0_fam.1 a0_fam v0_fam.2.2, wS dT a0_seen v0_seen, [(b4, .inl (dT 1, 1, .inr (.inl u4)))]]) (fun _ : Unit => True) (fun _ : Unit => [wH dT a0 h_tape h_reader h_friends h_dusk (a0_fam 0 0) h_coming h_acts (a0_seen 0) h_pairs h_trials h_imageNow h_imageActs h_imageSeen res.2.1, wRw dT v0_fam.1 a0_fam v0_fam.2.2, wS dT a0_seen res.2.2.1, [(b4, .inl (dT 1, 1, .inr (.inl res.2.2.2)))]]) res.1 0 0 := by
  refine CWi.of (by decide) (Nat.le_of_ble_eq_true rfl) rfl ?_
  intro p e s m args below meth c A C EX htab
  have E := EX.1
  unfold f_L_see at hf
  refine wa_aload C 4 2 dL_see_0 rfl rfl ?_
  refine wa_iconst (v := 0) C 3 dL_see_2 rfl rfl ?_
  refine wa_aload_n C 0 4 dL_see_3 rfl rfl ?_
  refine wa_iload_n C 1 5 dL_see_4 rfl rfl ?_
  refine wa_iload_n C 2 6 dL_see_5 rfl rfl ?_
  refine wa_iload_n C 3 7 dL_see_6 rfl rfl ?_
  obtain ⟨q1, hq1, hf⟩ := bind_ex hf
  refine wa_callVi (b1 := 0) (q1 := 0) (ci := 11) (ws' := [wH dT a0 h_tape h_reader h_friends h_dusk (a0_fam 0 0) h_coming h_acts (a0_seen 0) h_pairs h_trials h_imageNow h_imageActs h_imageSeen q1.2.1, wRw dT v0_fam.1 a0_fam v0_fam.2.2, wS dT a0_seen q1.2.2, [(b4, .inl (dT 1, 1, .inr (.inl u4)))]]) (As := [.int p1, .int p2, .int p3]) C 10 dL_see_7 rfl kv_L_82 (c_X11_see hq1) ⟨rfl, rfl⟩ ⟨Nat.le_of_ble_eq_true rfl, Nat.le_of_ble_eq_true rfl⟩ rfl rfl rfl [0, 1, 2] [3] [1, 2, 3, 0] rfl rfl rfl rfl (by decide) rfl rfl rfl rfl ⟨Nat.zero_le _, Nat.zero_le _⟩ (Nat.le_of_ble_eq_true rfl) ?_
  refine wa_i2l C 11 dL_see_10 rfl ?_
  obtain ⟨g3, hf⟩ := grd_ex hf
  obtain ⟨y4, ey4, hf⟩ := bnd_ex hf
  refine wa_last (ws' := [wH dT a0 h_tape h_reader h_friends h_dusk (a0_fam 0 0) h_coming h_acts (a0_seen 0) h_pairs h_trials h_imageNow h_imageActs h_imageSeen q1.2.1, wRw dT v0_fam.1 a0_fam v0_fam.2.2, wS dT a0_seen q1.2.2, [(b4, .inl (dT 1, 1, .inr (.inl y4)))]]) C 12 3 0 dL_see_11 rfl rfl rfl (vi_in g3) (by rw [ey4]; rfl) ?_
  refine wa_goto C 19 dL_see_12 rfl ?_
  refine wa_iconst (v := 0) C 20 dL_see_19 rfl rfl ?_
  cases hf
  exact wa_irm C () dL_see_20 trivial rfl rfl (Nat.zero_le _) (Nat.zero_le _)
theorem kv_L_85 : KV "NewHousesLaw" 85 yX11_ranked cX11_ranked 2 (some .int) 1 := KV.mk q1303 q1304 q1305 q1 q1306 ⟨by decide, by decide, by decide +kernel⟩
def f_L_ranked (v0 : Ob) (v0_dusk : Ob) (v0_dpicks : Ob) (v0_dkeeps : Ob) (v0_fam : FS) (v0_seen : Ob) (v0_trials : Ob) (v0_trial : Ob) (v0_tknown : Ob) (u2 : (Nat → Int64)) (p1 : Int32) : Option (Int32 × Ob × Ob × Ob × Ob × Ob × (Nat → Int64)) := (f_X11_ranked v0 v0_dusk v0_dpicks v0_dkeeps v0_fam v0_seen v0_trials v0_trial v0_tknown p1).bind (fun q1 => grd (vi (0 : Int32) 1) (bnd (vp_updL u2 ((0 : Int32)).toNatClampNeg q1.1.toInt64) (fun y4 => some ((0 : Int32), q1.2.1, q1.2.2.1, q1.2.2.2.1, q1.2.2.2.2.1, q1.2.2.2.2.2, y4))))
set_option maxRecDepth 20000 in
theorem c_L_ranked {l : Launch} {D : va_G} {dT : Nat → ClassId} {aK aV : Nat → Nat} {a0 : Nat → Nat} {a0_dusk : Nat → Nat} {a0_dpicks : Nat → Nat} {a0_dkeeps : Nat → Nat} {a0_fam : Nat → Nat → Nat} {a0_seen : Nat → Nat} {a0_trials : Nat → Nat} {a0_trial : Nat → Nat} {a0_tknown : Nat → Nat} {b2 : Nat} {h_tape : Nat} {h_reader : Nat} {h_friends : Nat} {h_coming : Nat} {h_acts : Nat} {h_pairs : Nat} {h_imageNow : Nat} {h_imageActs : Nat} {h_imageSeen : Nat} {v0 : Ob} {v0_dusk : Ob} {v0_dpicks : Ob} {v0_dkeeps : Ob} {v0_fam : FS} {v0_seen : Ob} {v0_trials : Ob} {v0_trial : Ob} {v0_tknown : Ob} {u2 : (Nat → Int64)} {p1 : Int32} {res : Int32 × Ob × Ob × Ob × Ob × Ob × (Nat → Int64)} (hf : f_L_ranked v0 v0_dusk v0_dpicks v0_dkeeps v0_fam v0_seen v0_trials v0_trial v0_tknown u2 p1 = some res) : CWi aK aV l yL_ranked cL_ranked 4 [((0 : Nat), (9 : Nat), (12 : Nat), (18 : Nat))] ({ frames := 9, cells := 0, slots := 0, locals := 199 } : Room) D dT [.ref (a0 0), .int p1, .ref b2] ([wH dT a0 h_tape h_reader h_friends (a0_dusk 0) (a0_fam 0 0) h_coming h_acts (a0_seen 0) h_pairs (a0_trials 0) h_imageNow h_imageActs h_imageSeen v0, wD dT a0_dusk (a0_dpicks 0) (a0_dkeeps 0) v0_dusk, wR dT a0_dpicks v0_dpicks, wR dT a0_dkeeps v0_dkeeps, wRw dT v0_fam.1 a0_fam v0_fam.2.2, wS dT a0_seen v0_seen, wT dT a0_trials (a0_dusk 0) (a0_trial 0) (a0_tknown 0) v0_trials, wV dT a0_trial v0_trial, wK dT a0_tknown v0_tknown, [(b2, .inl (dT 1, 1, .inr (.inl u2)))]]) (fun _ : Unit => True) (fun _ : Unit => [wH dT a0 h_tape h_reader h_friends (a0_dusk 0) (a0_fam 0 0) h_coming h_acts (a0_seen 0) h_pairs (a0_trials 0) h_imageNow h_imageActs h_imageSeen v0, wD dT a0_dusk (a0_dpicks 0) (a0_dkeeps 0) res.2.1, wR dT a0_dpicks res.2.2.1, wR dT a0_dkeeps res.2.2.2.1, wRw dT v0_fam.1 a0_fam v0_fam.2.2, wS dT a0_seen v0_seen, wT dT a0_trials (a0_dusk 0) (a0_trial 0) (a0_tknown 0) res.2.2.2.2.1, wV dT a0_trial res.2.2.2.2.2.1, wK dT a0_tknown v0_tknown, [(b2, .inl (dT 1, 1, .inr (.inl res.2.2.2.2.2.2)))]]) res.1 0 0 := by
  refine CWi.of (by decide) (Nat.le_of_ble_eq_true rfl) rfl ?_
  intro p e s m args below meth c A C EX htab
  have E := EX.1
  unfold f_L_ranked at hf
  refine wa_aload_n C 2 1 dL_ranked_0 rfl rfl ?_
  refine wa_iconst (v := 0) C 2 dL_ranked_1 rfl rfl ?_
  refine wa_aload_n C 0 3 dL_ranked_2 rfl rfl ?_
  refine wa_iload_n C 1 4 dL_ranked_3 rfl rfl ?_
  obtain ⟨q1, hq1, hf⟩ := bind_ex hf
  refine wa_callVi (b1 := 0) (q1 := 0) (ci := 11) (ws' := [wH dT a0 h_tape h_reader h_friends (a0_dusk 0) (a0_fam 0 0) h_coming h_acts (a0_seen 0) h_pairs (a0_trials 0) h_imageNow h_imageActs h_imageSeen v0, wD dT a0_dusk (a0_dpicks 0) (a0_dkeeps 0) q1.2.1, wR dT a0_dpicks q1.2.2.1, wR dT a0_dkeeps q1.2.2.2.1, wRw dT v0_fam.1 a0_fam v0_fam.2.2, wS dT a0_seen v0_seen, wT dT a0_trials (a0_dusk 0) (a0_trial 0) (a0_tknown 0) q1.2.2.2.2.1, wV dT a0_trial q1.2.2.2.2.2, wK dT a0_tknown v0_tknown, [(b2, .inl (dT 1, 1, .inr (.inl u2)))]]) (As := [.int p1]) C 7 dL_ranked_4 rfl kv_L_85 (c_X11_ranked hq1) ⟨rfl, rfl⟩ ⟨Nat.le_of_ble_eq_true rfl, Nat.le_of_ble_eq_true rfl⟩ rfl rfl rfl [0, 1, 2, 3, 4, 5, 6, 7, 8] [9] [1, 2, 3, 4, 5, 6, 7, 8, 9, 0] rfl rfl rfl rfl (by decide) rfl rfl rfl rfl ⟨Nat.zero_le _, Nat.zero_le _⟩ (Nat.le_of_ble_eq_true rfl) ?_
  refine wa_i2l C 8 dL_ranked_7 rfl ?_
  obtain ⟨g3, hf⟩ := grd_ex hf
  obtain ⟨y4, ey4, hf⟩ := bnd_ex hf
  refine wa_last (ws' := [wH dT a0 h_tape h_reader h_friends (a0_dusk 0) (a0_fam 0 0) h_coming h_acts (a0_seen 0) h_pairs (a0_trials 0) h_imageNow h_imageActs h_imageSeen v0, wD dT a0_dusk (a0_dpicks 0) (a0_dkeeps 0) q1.2.1, wR dT a0_dpicks q1.2.2.1, wR dT a0_dkeeps q1.2.2.2.1, wRw dT v0_fam.1 a0_fam v0_fam.2.2, wS dT a0_seen v0_seen, wT dT a0_trials (a0_dusk 0) (a0_trial 0) (a0_tknown 0) q1.2.2.2.2.1, wV dT a0_trial q1.2.2.2.2.2, wK dT a0_tknown v0_tknown, [(b2, .inl (dT 1, 1, .inr (.inl y4)))]]) C 9 9 0 dL_ranked_8 rfl rfl rfl (vi_in g3) (by rw [ey4]; rfl) ?_
  refine wa_goto C 15 dL_ranked_9 rfl ?_
  refine wa_iconst (v := 0) C 16 dL_ranked_15 rfl rfl ?_
  cases hf
  exact wa_irm C () dL_ranked_16 trivial rfl rfl (Nat.zero_le _) (Nat.zero_le _)
theorem kv_L_88 : KV "NewHousesLaw" 88 yX11_look cX11_look 3 (some .int) 1 := KV.mk q1340 q1341 q1342 q1 q1343 ⟨by decide, by decide, by decide +kernel⟩
def f_L_look (v0 : Ob) (v0_dusk : Ob) (v0_dpicks : Ob) (v0_dkeeps : Ob) (v0_fam : FS) (v0_seen : Ob) (v0_trials : Ob) (v0_trial : Ob) (v0_tknown : Ob) (u2 : (Nat → Int64)) (p1 : Int32) : Option (Int32 × Ob × Ob × Ob × Ob × Ob × (Nat → Int64)) := (f_X11_look v0 v0_dusk v0_dpicks v0_dkeeps v0_fam v0_seen v0_trials v0_trial v0_tknown p1).bind (fun q1 => grd (vi (0 : Int32) 1) (bnd (vp_updL u2 ((0 : Int32)).toNatClampNeg q1.1.toInt64) (fun y4 => some ((0 : Int32), q1.2.1, q1.2.2.1, q1.2.2.2.1, q1.2.2.2.2.1, q1.2.2.2.2.2, y4))))
set_option maxRecDepth 20000 in
theorem c_L_look {l : Launch} {D : va_G} {dT : Nat → ClassId} {aK aV : Nat → Nat} {a0 : Nat → Nat} {a0_dusk : Nat → Nat} {a0_dpicks : Nat → Nat} {a0_dkeeps : Nat → Nat} {a0_fam : Nat → Nat → Nat} {a0_seen : Nat → Nat} {a0_trials : Nat → Nat} {a0_trial : Nat → Nat} {a0_tknown : Nat → Nat} {b2 : Nat} {h_tape : Nat} {h_reader : Nat} {h_friends : Nat} {h_coming : Nat} {h_acts : Nat} {h_pairs : Nat} {h_imageNow : Nat} {h_imageActs : Nat} {h_imageSeen : Nat} {v0 : Ob} {v0_dusk : Ob} {v0_dpicks : Ob} {v0_dkeeps : Ob} {v0_fam : FS} {v0_seen : Ob} {v0_trials : Ob} {v0_trial : Ob} {v0_tknown : Ob} {u2 : (Nat → Int64)} {p1 : Int32} {res : Int32 × Ob × Ob × Ob × Ob × Ob × (Nat → Int64)} (hf : f_L_look v0 v0_dusk v0_dpicks v0_dkeeps v0_fam v0_seen v0_trials v0_trial v0_tknown u2 p1 = some res) : CWi aK aV l yL_look cL_look 4 [((0 : Nat), (9 : Nat), (12 : Nat), (18 : Nat))] ({ frames := 9, cells := 0, slots := 0, locals := 200 } : Room) D dT [.ref (a0 0), .int p1, .ref b2] ([wH dT a0 h_tape h_reader h_friends (a0_dusk 0) (a0_fam 0 0) h_coming h_acts (a0_seen 0) h_pairs (a0_trials 0) h_imageNow h_imageActs h_imageSeen v0, wD dT a0_dusk (a0_dpicks 0) (a0_dkeeps 0) v0_dusk, wR dT a0_dpicks v0_dpicks, wR dT a0_dkeeps v0_dkeeps, wRw dT v0_fam.1 a0_fam v0_fam.2.2, wS dT a0_seen v0_seen, wT dT a0_trials (a0_dusk 0) (a0_trial 0) (a0_tknown 0) v0_trials, wV dT a0_trial v0_trial, wK dT a0_tknown v0_tknown, [(b2, .inl (dT 1, 1, .inr (.inl u2)))]]) (fun _ : Unit => True) (fun _ : Unit => [wH dT a0 h_tape h_reader h_friends (a0_dusk 0) (a0_fam 0 0) h_coming h_acts (a0_seen 0) h_pairs (a0_trials 0) h_imageNow h_imageActs h_imageSeen v0, wD dT a0_dusk (a0_dpicks 0) (a0_dkeeps 0) res.2.1, wR dT a0_dpicks res.2.2.1, wR dT a0_dkeeps res.2.2.2.1, wRw dT v0_fam.1 a0_fam v0_fam.2.2, wS dT a0_seen v0_seen, wT dT a0_trials (a0_dusk 0) (a0_trial 0) (a0_tknown 0) res.2.2.2.2.1, wV dT a0_trial res.2.2.2.2.2.1, wK dT a0_tknown v0_tknown, [(b2, .inl (dT 1, 1, .inr (.inl res.2.2.2.2.2.2)))]]) res.1 0 0 := by
  refine CWi.of (by decide) (Nat.le_of_ble_eq_true rfl) rfl ?_
  intro p e s m args below meth c A C EX htab
  have E := EX.1
  unfold f_L_look at hf
  refine wa_aload_n C 2 1 dL_look_0 rfl rfl ?_
  refine wa_iconst (v := 0) C 2 dL_look_1 rfl rfl ?_
  refine wa_aload_n C 0 3 dL_look_2 rfl rfl ?_
  refine wa_iload_n C 1 4 dL_look_3 rfl rfl ?_
  obtain ⟨q1, hq1, hf⟩ := bind_ex hf
  refine wa_callVi (b1 := 0) (q1 := 0) (ci := 11) (ws' := [wH dT a0 h_tape h_reader h_friends (a0_dusk 0) (a0_fam 0 0) h_coming h_acts (a0_seen 0) h_pairs (a0_trials 0) h_imageNow h_imageActs h_imageSeen v0, wD dT a0_dusk (a0_dpicks 0) (a0_dkeeps 0) q1.2.1, wR dT a0_dpicks q1.2.2.1, wR dT a0_dkeeps q1.2.2.2.1, wRw dT v0_fam.1 a0_fam v0_fam.2.2, wS dT a0_seen v0_seen, wT dT a0_trials (a0_dusk 0) (a0_trial 0) (a0_tknown 0) q1.2.2.2.2.1, wV dT a0_trial q1.2.2.2.2.2, wK dT a0_tknown v0_tknown, [(b2, .inl (dT 1, 1, .inr (.inl u2)))]]) (As := [.int p1]) C 7 dL_look_4 rfl kv_L_88 (c_X11_look hq1) ⟨rfl, rfl⟩ ⟨Nat.le_of_ble_eq_true rfl, Nat.le_of_ble_eq_true rfl⟩ rfl rfl rfl [0, 1, 2, 3, 4, 5, 6, 7, 8] [9] [1, 2, 3, 4, 5, 6, 7, 8, 9, 0] rfl rfl rfl rfl (by decide) rfl rfl rfl rfl ⟨Nat.zero_le _, Nat.zero_le _⟩ (Nat.le_of_ble_eq_true rfl) ?_
  refine wa_i2l C 8 dL_look_7 rfl ?_
  obtain ⟨g3, hf⟩ := grd_ex hf
  obtain ⟨y4, ey4, hf⟩ := bnd_ex hf
  refine wa_last (ws' := [wH dT a0 h_tape h_reader h_friends (a0_dusk 0) (a0_fam 0 0) h_coming h_acts (a0_seen 0) h_pairs (a0_trials 0) h_imageNow h_imageActs h_imageSeen v0, wD dT a0_dusk (a0_dpicks 0) (a0_dkeeps 0) q1.2.1, wR dT a0_dpicks q1.2.2.1, wR dT a0_dkeeps q1.2.2.2.1, wRw dT v0_fam.1 a0_fam v0_fam.2.2, wS dT a0_seen v0_seen, wT dT a0_trials (a0_dusk 0) (a0_trial 0) (a0_tknown 0) q1.2.2.2.2.1, wV dT a0_trial q1.2.2.2.2.2, wK dT a0_tknown v0_tknown, [(b2, .inl (dT 1, 1, .inr (.inl y4)))]]) C 9 9 0 dL_look_8 rfl rfl rfl (vi_in g3) (by rw [ey4]; rfl) ?_
  refine wa_goto C 15 dL_look_9 rfl ?_
  refine wa_iconst (v := 0) C 16 dL_look_15 rfl rfl ?_
  cases hf
  exact wa_irm C () dL_look_16 trivial rfl rfl (Nat.zero_le _) (Nat.zero_le _)
theorem kv_L_91 : KV "NewHousesLaw" 91 yX11_storms cX11_storms 5 (some .int) 4 := KV.mk q1357 q1358 q1359 q1 q1360 ⟨by decide, by decide, by decide +kernel⟩
def f_L_storms (v0 : Ob) (v0_dusk : Ob) (v0_dpicks : Ob) (v0_dkeeps : Ob) (v0_fam : FS) (v0_trials : Ob) (v0_trial : Ob) (v0_tknown : Ob) (u5 : (Nat → Int64)) (p1 : Int32) (p2 : Int32) (p3 : Int32) (p4 : Int32) : Option (Int32 × Ob × Ob × Ob × Ob × (Nat → Int64)) := (f_X11_storms v0 v0_dusk v0_dpicks v0_dkeeps v0_fam v0_trials v0_trial v0_tknown p1 p2 p3 p4).bind (fun q1 => grd (vi (0 : Int32) 1) (bnd (vp_updL u5 ((0 : Int32)).toNatClampNeg q1.1.toInt64) (fun y4 => some ((0 : Int32), q1.2.1, q1.2.2.1, q1.2.2.2.1, q1.2.2.2.2, y4))))
set_option maxRecDepth 20000 in
theorem c_L_storms {l : Launch} {D : va_G} {dT : Nat → ClassId} {aK aV : Nat → Nat} {a0 : Nat → Nat} {a0_dusk : Nat → Nat} {a0_dpicks : Nat → Nat} {a0_dkeeps : Nat → Nat} {a0_fam : Nat → Nat → Nat} {a0_trials : Nat → Nat} {a0_trial : Nat → Nat} {a0_tknown : Nat → Nat} {b5 : Nat} {h_tape : Nat} {h_reader : Nat} {h_friends : Nat} {h_coming : Nat} {h_acts : Nat} {h_seen : Nat} {h_pairs : Nat} {h_imageNow : Nat} {h_imageActs : Nat} {h_imageSeen : Nat} {v0 : Ob} {v0_dusk : Ob} {v0_dpicks : Ob} {v0_dkeeps : Ob} {v0_fam : FS} {v0_trials : Ob} {v0_trial : Ob} {v0_tknown : Ob} {u5 : (Nat → Int64)} {p1 : Int32} {p2 : Int32} {p3 : Int32} {p4 : Int32} {res : Int32 × Ob × Ob × Ob × Ob × (Nat → Int64)} (hf : f_L_storms v0 v0_dusk v0_dpicks v0_dkeeps v0_fam v0_trials v0_trial v0_tknown u5 p1 p2 p3 p4 = some res) : CWi aK aV l yL_storms cL_storms 7 [((0 : Nat), (14 : Nat), (17 : Nat), (18 : Nat)), ((0 : Nat), (14 : Nat), (21 : Nat), (13 : Nat))] ({ frames := 8, cells := 0, slots := 0, locals := 183 } : Room) D dT [.ref (a0 0), .int p1, .int p2, .int p3, .int p4, .ref b5] ([wH dT a0 h_tape h_reader h_friends (a0_dusk 0) (a0_fam 0 0) h_coming h_acts h_seen h_pairs (a0_trials 0) h_imageNow h_imageActs h_imageSeen v0, wD dT a0_dusk (a0_dpicks 0) (a0_dkeeps 0) v0_dusk, wR dT a0_dpicks v0_dpicks, wR dT a0_dkeeps v0_dkeeps, wRw dT v0_fam.1 a0_fam v0_fam.2.2, wT dT a0_trials (a0_dusk 0) (a0_trial 0) (a0_tknown 0) v0_trials, wV dT a0_trial v0_trial, wK dT a0_tknown v0_tknown, [(b5, .inl (dT 1, 1, .inr (.inl u5)))]]) (fun _ : Unit => True) (fun _ : Unit => [wH dT a0 h_tape h_reader h_friends (a0_dusk 0) (a0_fam 0 0) h_coming h_acts h_seen h_pairs (a0_trials 0) h_imageNow h_imageActs h_imageSeen v0, wD dT a0_dusk (a0_dpicks 0) (a0_dkeeps 0) res.2.1, wR dT a0_dpicks res.2.2.1, wR dT a0_dkeeps res.2.2.2.1, wRw dT v0_fam.1 a0_fam v0_fam.2.2, wT dT a0_trials (a0_dusk 0) (a0_trial 0) (a0_tknown 0) v0_trials, wV dT a0_trial res.2.2.2.2.1, wK dT a0_tknown v0_tknown, [(b5, .inl (dT 1, 1, .inr (.inl res.2.2.2.2.2)))]]) res.1 0 0 := by
  refine CWi.of (by decide) (Nat.le_of_ble_eq_true rfl) rfl ?_
  intro p e s m args below meth c A C EX htab
  have E := EX.1
  unfold f_L_storms at hf
  refine wa_aload C 5 2 dL_storms_0 rfl rfl ?_
  refine wa_iconst (v := 0) C 3 dL_storms_2 rfl rfl ?_
  refine wa_aload_n C 0 4 dL_storms_3 rfl rfl ?_
  refine wa_iload_n C 1 5 dL_storms_4 rfl rfl ?_
  refine wa_iload_n C 2 6 dL_storms_5 rfl rfl ?_
  refine wa_iload_n C 3 7 dL_storms_6 rfl rfl ?_
  refine wa_iload C 4 9 dL_storms_7 rfl rfl ?_
  obtain ⟨q1, hq1, hf⟩ := bind_ex hf
  refine wa_callVi (b1 := 0) (q1 := 0) (ci := 11) (ws' := [wH dT a0 h_tape h_reader h_friends (a0_dusk 0) (a0_fam 0 0) h_coming h_acts h_seen h_pairs (a0_trials 0) h_imageNow h_imageActs h_imageSeen v0, wD dT a0_dusk (a0_dpicks 0) (a0_dkeeps 0) q1.2.1, wR dT a0_dpicks q1.2.2.1, wR dT a0_dkeeps q1.2.2.2.1, wRw dT v0_fam.1 a0_fam v0_fam.2.2, wT dT a0_trials (a0_dusk 0) (a0_trial 0) (a0_tknown 0) v0_trials, wV dT a0_trial q1.2.2.2.2, wK dT a0_tknown v0_tknown, [(b5, .inl (dT 1, 1, .inr (.inl u5)))]]) (As := [.int p1, .int p2, .int p3, .int p4]) C 12 dL_storms_9 rfl kv_L_91 (c_X11_storms hq1) ⟨rfl, rfl⟩ ⟨Nat.le_of_ble_eq_true rfl, Nat.le_of_ble_eq_true rfl⟩ rfl rfl rfl [0, 1, 2, 3, 4, 5, 6, 7] [8] [1, 2, 3, 4, 5, 6, 7, 8, 0] rfl rfl rfl rfl (by decide) rfl rfl rfl rfl ⟨Nat.zero_le _, Nat.zero_le _⟩ (Nat.le_of_ble_eq_true rfl) ?_
  refine wa_i2l C 13 dL_storms_12 rfl ?_
  obtain ⟨g3, hf⟩ := grd_ex hf
  obtain ⟨y4, ey4, hf⟩ := bnd_ex hf
  refine wa_last (ws' := [wH dT a0 h_tape h_reader h_friends (a0_dusk 0) (a0_fam 0 0) h_coming h_acts h_seen h_pairs (a0_trials 0) h_imageNow h_imageActs h_imageSeen v0, wD dT a0_dusk (a0_dpicks 0) (a0_dkeeps 0) q1.2.1, wR dT a0_dpicks q1.2.2.1, wR dT a0_dkeeps q1.2.2.2.1, wRw dT v0_fam.1 a0_fam v0_fam.2.2, wT dT a0_trials (a0_dusk 0) (a0_trial 0) (a0_tknown 0) v0_trials, wV dT a0_trial q1.2.2.2.2, wK dT a0_tknown v0_tknown, [(b5, .inl (dT 1, 1, .inr (.inl y4)))]]) C 14 8 0 dL_storms_13 rfl rfl rfl (vi_in g3) (by rw [ey4]; rfl) ?_
  refine wa_goto C 25 dL_storms_14 rfl ?_
  refine wa_iconst (v := 0) C 26 dL_storms_25 rfl rfl ?_
  cases hf
  exact wa_irm C () dL_storms_26 trivial rfl rfl (Nat.zero_le _) (Nat.zero_le _)
theorem kv_L_95 : KV "NewHousesLaw" 95 yX11_game cX11_game 4 (some .int) 3 := KV.mk q1368 q1369 q1370 q1 q1371 ⟨by decide, by decide, by decide +kernel⟩
def f_L_game (v0 : Ob) (v0_friends : Ob) (v0_dusk : Ob) (v0_dpicks : Ob) (v0_dkeeps : Ob) (v0_fam : FS) (v0_trials : Ob) (v0_trial : Ob) (v0_tknown : Ob) (u4 : (Nat → Int64)) (p1 : Int32) (p2 : Int32) (p3 : Int32) : Option (Int32 × Ob × Ob × Ob × Ob × Ob × (Nat → Int64)) := (f_X11_game v0 v0_friends v0_dusk v0_dpicks v0_dkeeps v0_fam v0_trials v0_trial v0_tknown p1 p2 p3).bind (fun q1 => grd (vi (0 : Int32) 1) (bnd (vp_updL u4 ((0 : Int32)).toNatClampNeg q1.1.toInt64) (fun y4 => some ((0 : Int32), q1.2.1, q1.2.2.1, q1.2.2.2.1, q1.2.2.2.2.1, q1.2.2.2.2.2, y4))))
set_option maxRecDepth 20000 in
theorem c_L_game {l : Launch} {D : va_G} {dT : Nat → ClassId} {aK aV : Nat → Nat} {a0 : Nat → Nat} {a0_friends : Nat → Nat} {a0_dusk : Nat → Nat} {a0_dpicks : Nat → Nat} {a0_dkeeps : Nat → Nat} {a0_fam : Nat → Nat → Nat} {a0_trials : Nat → Nat} {a0_trial : Nat → Nat} {a0_tknown : Nat → Nat} {b4 : Nat} {h_tape : Nat} {h_reader : Nat} {h_coming : Nat} {h_acts : Nat} {h_seen : Nat} {h_pairs : Nat} {h_imageNow : Nat} {h_imageActs : Nat} {h_imageSeen : Nat} {v0 : Ob} {v0_friends : Ob} {v0_dusk : Ob} {v0_dpicks : Ob} {v0_dkeeps : Ob} {v0_fam : FS} {v0_trials : Ob} {v0_trial : Ob} {v0_tknown : Ob} {u4 : (Nat → Int64)} {p1 : Int32} {p2 : Int32} {p3 : Int32} {res : Int32 × Ob × Ob × Ob × Ob × Ob × (Nat → Int64)} (hf : f_L_game v0 v0_friends v0_dusk v0_dpicks v0_dkeeps v0_fam v0_trials v0_trial v0_tknown u4 p1 p2 p3 = some res) : CWi aK aV l yL_game cL_game 6 [((0 : Nat), (12 : Nat), (15 : Nat), (18 : Nat)), ((0 : Nat), (12 : Nat), (19 : Nat), (13 : Nat))] ({ frames := 8, cells := 0, slots := 0, locals := 181 } : Room) D dT [.ref (a0 0), .int p1, .int p2, .int p3, .ref b4] ([wH dT a0 h_tape h_reader (a0_friends 0) (a0_dusk 0) (a0_fam 0 0) h_coming h_acts h_seen h_pairs (a0_trials 0) h_imageNow h_imageActs h_imageSeen v0, wF dT a0_friends v0_friends, wD dT a0_dusk (a0_dpicks 0) (a0_dkeeps 0) v0_dusk, wR dT a0_dpicks v0_dpicks, wR dT a0_dkeeps v0_dkeeps, wRw dT v0_fam.1 a0_fam v0_fam.2.2, wT dT a0_trials (a0_dusk 0) (a0_trial 0) (a0_tknown 0) v0_trials, wV dT a0_trial v0_trial, wK dT a0_tknown v0_tknown, [(b4, .inl (dT 1, 1, .inr (.inl u4)))]]) (fun _ : Unit => True) (fun _ : Unit => [wH dT a0 h_tape h_reader (a0_friends 0) (a0_dusk 0) (a0_fam 0 0) h_coming h_acts h_seen h_pairs (a0_trials 0) h_imageNow h_imageActs h_imageSeen v0, wF dT a0_friends v0_friends, wD dT a0_dusk (a0_dpicks 0) (a0_dkeeps 0) res.2.1, wR dT a0_dpicks res.2.2.1, wR dT a0_dkeeps res.2.2.2.1, wRw dT v0_fam.1 a0_fam v0_fam.2.2, wT dT a0_trials (a0_dusk 0) (a0_trial 0) (a0_tknown 0) res.2.2.2.2.1, wV dT a0_trial res.2.2.2.2.2.1, wK dT a0_tknown v0_tknown, [(b4, .inl (dT 1, 1, .inr (.inl res.2.2.2.2.2.2)))]]) res.1 0 0 := by
  refine CWi.of (by decide) (Nat.le_of_ble_eq_true rfl) rfl ?_
  intro p e s m args below meth c A C EX htab
  have E := EX.1
  unfold f_L_game at hf
  refine wa_aload C 4 2 dL_game_0 rfl rfl ?_
  refine wa_iconst (v := 0) C 3 dL_game_2 rfl rfl ?_
  refine wa_aload_n C 0 4 dL_game_3 rfl rfl ?_
  refine wa_iload_n C 1 5 dL_game_4 rfl rfl ?_
  refine wa_iload_n C 2 6 dL_game_5 rfl rfl ?_
  refine wa_iload_n C 3 7 dL_game_6 rfl rfl ?_
  obtain ⟨q1, hq1, hf⟩ := bind_ex hf
  refine wa_callVi (b1 := 0) (q1 := 0) (ci := 11) (ws' := [wH dT a0 h_tape h_reader (a0_friends 0) (a0_dusk 0) (a0_fam 0 0) h_coming h_acts h_seen h_pairs (a0_trials 0) h_imageNow h_imageActs h_imageSeen v0, wF dT a0_friends v0_friends, wD dT a0_dusk (a0_dpicks 0) (a0_dkeeps 0) q1.2.1, wR dT a0_dpicks q1.2.2.1, wR dT a0_dkeeps q1.2.2.2.1, wRw dT v0_fam.1 a0_fam v0_fam.2.2, wT dT a0_trials (a0_dusk 0) (a0_trial 0) (a0_tknown 0) q1.2.2.2.2.1, wV dT a0_trial q1.2.2.2.2.2, wK dT a0_tknown v0_tknown, [(b4, .inl (dT 1, 1, .inr (.inl u4)))]]) (As := [.int p1, .int p2, .int p3]) C 10 dL_game_7 rfl kv_L_95 (c_X11_game hq1) ⟨rfl, rfl⟩ ⟨Nat.le_of_ble_eq_true rfl, Nat.le_of_ble_eq_true rfl⟩ rfl rfl rfl [0, 1, 2, 3, 4, 5, 6, 7, 8] [9] [1, 2, 3, 4, 5, 6, 7, 8, 9, 0] rfl rfl rfl rfl (by decide) rfl rfl rfl rfl ⟨Nat.zero_le _, Nat.zero_le _⟩ (Nat.le_of_ble_eq_true rfl) ?_
  refine wa_i2l C 11 dL_game_10 rfl ?_
  obtain ⟨g3, hf⟩ := grd_ex hf
  obtain ⟨y4, ey4, hf⟩ := bnd_ex hf
  refine wa_last (ws' := [wH dT a0 h_tape h_reader (a0_friends 0) (a0_dusk 0) (a0_fam 0 0) h_coming h_acts h_seen h_pairs (a0_trials 0) h_imageNow h_imageActs h_imageSeen v0, wF dT a0_friends v0_friends, wD dT a0_dusk (a0_dpicks 0) (a0_dkeeps 0) q1.2.1, wR dT a0_dpicks q1.2.2.1, wR dT a0_dkeeps q1.2.2.2.1, wRw dT v0_fam.1 a0_fam v0_fam.2.2, wT dT a0_trials (a0_dusk 0) (a0_trial 0) (a0_tknown 0) q1.2.2.2.2.1, wV dT a0_trial q1.2.2.2.2.2, wK dT a0_tknown v0_tknown, [(b4, .inl (dT 1, 1, .inr (.inl y4)))]]) C 12 9 0 dL_game_11 rfl rfl rfl (vi_in g3) (by rw [ey4]; rfl) ?_
  refine wa_goto C 23 dL_game_12 rfl ?_
  refine wa_iconst (v := 0) C 24 dL_game_23 rfl rfl ?_
  cases hf
  exact wa_irm C () dL_game_24 trivial rfl rfl (Nat.zero_le _) (Nat.zero_le _)
theorem kv_L_98 : KV "NewHousesLaw" 98 yX11_years cX11_years 4 (some .int) 3 := KV.mk q1398 q1399 q1400 q1 q1401 ⟨by decide, by decide, by decide +kernel⟩
def f_L_years (v0 : Ob) (v0_dusk : Ob) (v0_dpicks : Ob) (v0_dkeeps : Ob) (v0_fam : FS) (v0_trials : Ob) (v0_trial : Ob) (v0_tknown : Ob) (u4 : (Nat → Int64)) (p1 : Int32) (p2 : Int32) (p3 : Int32) : Option (Int32 × Ob × Ob × Ob × Ob × Ob × (Nat → Int64)) := (f_X11_years v0 v0_dusk v0_dpicks v0_dkeeps v0_fam v0_trials v0_trial v0_tknown p1 p2 p3).bind (fun q1 => grd (vi (0 : Int32) 1) (bnd (vp_updL u4 ((0 : Int32)).toNatClampNeg q1.1.toInt64) (fun y4 => some ((0 : Int32), q1.2.1, q1.2.2.1, q1.2.2.2.1, q1.2.2.2.2.1, q1.2.2.2.2.2, y4))))
set_option maxRecDepth 20000 in
theorem c_L_years {l : Launch} {D : va_G} {dT : Nat → ClassId} {aK aV : Nat → Nat} {a0 : Nat → Nat} {a0_dusk : Nat → Nat} {a0_dpicks : Nat → Nat} {a0_dkeeps : Nat → Nat} {a0_fam : Nat → Nat → Nat} {a0_trials : Nat → Nat} {a0_trial : Nat → Nat} {a0_tknown : Nat → Nat} {b4 : Nat} {h_tape : Nat} {h_reader : Nat} {h_friends : Nat} {h_coming : Nat} {h_acts : Nat} {h_seen : Nat} {h_pairs : Nat} {h_imageNow : Nat} {h_imageActs : Nat} {h_imageSeen : Nat} {v0 : Ob} {v0_dusk : Ob} {v0_dpicks : Ob} {v0_dkeeps : Ob} {v0_fam : FS} {v0_trials : Ob} {v0_trial : Ob} {v0_tknown : Ob} {u4 : (Nat → Int64)} {p1 : Int32} {p2 : Int32} {p3 : Int32} {res : Int32 × Ob × Ob × Ob × Ob × Ob × (Nat → Int64)} (hf : f_L_years v0 v0_dusk v0_dpicks v0_dkeeps v0_fam v0_trials v0_trial v0_tknown u4 p1 p2 p3 = some res) : CWi aK aV l yL_years cL_years 6 [((0 : Nat), (12 : Nat), (15 : Nat), (18 : Nat)), ((0 : Nat), (12 : Nat), (19 : Nat), (13 : Nat))] ({ frames := 8, cells := 0, slots := 0, locals := 179 } : Room) D dT [.ref (a0 0), .int p1, .int p2, .int p3, .ref b4] ([wH dT a0 h_tape h_reader h_friends (a0_dusk 0) (a0_fam 0 0) h_coming h_acts h_seen h_pairs (a0_trials 0) h_imageNow h_imageActs h_imageSeen v0, wD dT a0_dusk (a0_dpicks 0) (a0_dkeeps 0) v0_dusk, wR dT a0_dpicks v0_dpicks, wR dT a0_dkeeps v0_dkeeps, wRw dT v0_fam.1 a0_fam v0_fam.2.2, wT dT a0_trials (a0_dusk 0) (a0_trial 0) (a0_tknown 0) v0_trials, wV dT a0_trial v0_trial, wK dT a0_tknown v0_tknown, [(b4, .inl (dT 1, 1, .inr (.inl u4)))]]) (fun _ : Unit => True) (fun _ : Unit => [wH dT a0 h_tape h_reader h_friends (a0_dusk 0) (a0_fam 0 0) h_coming h_acts h_seen h_pairs (a0_trials 0) h_imageNow h_imageActs h_imageSeen v0, wD dT a0_dusk (a0_dpicks 0) (a0_dkeeps 0) res.2.1, wR dT a0_dpicks res.2.2.1, wR dT a0_dkeeps res.2.2.2.1, wRw dT v0_fam.1 a0_fam v0_fam.2.2, wT dT a0_trials (a0_dusk 0) (a0_trial 0) (a0_tknown 0) res.2.2.2.2.1, wV dT a0_trial res.2.2.2.2.2.1, wK dT a0_tknown v0_tknown, [(b4, .inl (dT 1, 1, .inr (.inl res.2.2.2.2.2.2)))]]) res.1 0 0 := by
  refine CWi.of (by decide) (Nat.le_of_ble_eq_true rfl) rfl ?_
  intro p e s m args below meth c A C EX htab
  have E := EX.1
  unfold f_L_years at hf
  refine wa_aload C 4 2 dL_years_0 rfl rfl ?_
  refine wa_iconst (v := 0) C 3 dL_years_2 rfl rfl ?_
  refine wa_aload_n C 0 4 dL_years_3 rfl rfl ?_
  refine wa_iload_n C 1 5 dL_years_4 rfl rfl ?_
  refine wa_iload_n C 2 6 dL_years_5 rfl rfl ?_
  refine wa_iload_n C 3 7 dL_years_6 rfl rfl ?_
  obtain ⟨q1, hq1, hf⟩ := bind_ex hf
  refine wa_callVi (b1 := 0) (q1 := 0) (ci := 11) (ws' := [wH dT a0 h_tape h_reader h_friends (a0_dusk 0) (a0_fam 0 0) h_coming h_acts h_seen h_pairs (a0_trials 0) h_imageNow h_imageActs h_imageSeen v0, wD dT a0_dusk (a0_dpicks 0) (a0_dkeeps 0) q1.2.1, wR dT a0_dpicks q1.2.2.1, wR dT a0_dkeeps q1.2.2.2.1, wRw dT v0_fam.1 a0_fam v0_fam.2.2, wT dT a0_trials (a0_dusk 0) (a0_trial 0) (a0_tknown 0) q1.2.2.2.2.1, wV dT a0_trial q1.2.2.2.2.2, wK dT a0_tknown v0_tknown, [(b4, .inl (dT 1, 1, .inr (.inl u4)))]]) (As := [.int p1, .int p2, .int p3]) C 10 dL_years_7 rfl kv_L_98 (c_X11_years hq1) ⟨rfl, rfl⟩ ⟨Nat.le_of_ble_eq_true rfl, Nat.le_of_ble_eq_true rfl⟩ rfl rfl rfl [0, 1, 2, 3, 4, 5, 6, 7] [8] [1, 2, 3, 4, 5, 6, 7, 8, 0] rfl rfl rfl rfl (by decide) rfl rfl rfl rfl ⟨Nat.zero_le _, Nat.zero_le _⟩ (Nat.le_of_ble_eq_true rfl) ?_
  refine wa_i2l C 11 dL_years_10 rfl ?_
  obtain ⟨g3, hf⟩ := grd_ex hf
  obtain ⟨y4, ey4, hf⟩ := bnd_ex hf
  refine wa_last (ws' := [wH dT a0 h_tape h_reader h_friends (a0_dusk 0) (a0_fam 0 0) h_coming h_acts h_seen h_pairs (a0_trials 0) h_imageNow h_imageActs h_imageSeen v0, wD dT a0_dusk (a0_dpicks 0) (a0_dkeeps 0) q1.2.1, wR dT a0_dpicks q1.2.2.1, wR dT a0_dkeeps q1.2.2.2.1, wRw dT v0_fam.1 a0_fam v0_fam.2.2, wT dT a0_trials (a0_dusk 0) (a0_trial 0) (a0_tknown 0) q1.2.2.2.2.1, wV dT a0_trial q1.2.2.2.2.2, wK dT a0_tknown v0_tknown, [(b4, .inl (dT 1, 1, .inr (.inl y4)))]]) C 12 8 0 dL_years_11 rfl rfl rfl (vi_in g3) (by rw [ey4]; rfl) ?_
  refine wa_goto C 23 dL_years_12 rfl ?_
  refine wa_iconst (v := 0) C 24 dL_years_23 rfl rfl ?_
  cases hf
  exact wa_irm C () dL_years_24 trivial rfl rfl (Nat.zero_le _) (Nat.zero_le _)
theorem kv_L_101 : KV "NewHousesLaw" 101 yX11_ahead cX11_ahead 3 (some .int) 2 := KV.mk q1421 q1422 q1423 q1 q1424 ⟨by decide, by decide, by decide +kernel⟩
def f_L_ahead (v0 : Ob) (v0_coming : CS) (v0_dusk : Ob) (v0_dpicks : Ob) (v0_dkeeps : Ob) (v0_known : Ob) (v0_fam : FS) (u3 : (Nat → Int64)) (B6 : Nat) (p1 : Int32) (p2 : Int32) : Option (Int32 × CS × Ob × Ob × Ob × Ob × FS × (Nat → Int64)) := (f_X11_ahead v0 v0_coming v0_dusk v0_dpicks v0_dkeeps v0_known v0_fam B6 p1 p2).bind (fun q1 => grd (decide (v0_fam.1 ≤ q1.2.2.2.2.2.2.1 ∧ q1.2.2.2.2.2.2.1 ≤ B6)) (grd (vi (0 : Int32) 1) (bnd (vp_updL u3 ((0 : Int32)).toNatClampNeg q1.1.toInt64) (fun y5 => some ((0 : Int32), q1.2.1, q1.2.2.1, q1.2.2.2.1, q1.2.2.2.2.1, q1.2.2.2.2.2.1, q1.2.2.2.2.2.2, y5)))))
set_option maxRecDepth 20000 in
theorem c_L_ahead {l : Launch} {D : va_G} {dT : Nat → ClassId} {aK aV : Nat → Nat} {a0 : Nat → Nat} {a0_coming : Nat → Nat} {a0_dusk : Nat → Nat} {a0_dpicks : Nat → Nat} {a0_dkeeps : Nat → Nat} {a0_known : Nat → Nat} {a0_fam : Nat → Nat → Nat} {b3 : Nat} {h_tape : Nat} {h_reader : Nat} {h_friends : Nat} {h_acts : Nat} {h_seen : Nat} {h_pairs : Nat} {h_trials : Nat} {h_imageNow : Nat} {h_imageActs : Nat} {h_imageSeen : Nat} {v0 : Ob} {v0_coming : CS} {v0_dusk : Ob} {v0_dpicks : Ob} {v0_dkeeps : Ob} {v0_known : Ob} {v0_fam : FS} {u3 : (Nat → Int64)} {B6 : Nat} {p1 : Int32} {p2 : Int32} {res : Int32 × CS × Ob × Ob × Ob × Ob × FS × (Nat → Int64)} (hf : f_L_ahead v0 v0_coming v0_dusk v0_dpicks v0_dkeeps v0_known v0_fam u3 B6 p1 p2 = some res) : CWi aK aV l yL_ahead cL_ahead 5 [((0 : Nat), (10 : Nat), (13 : Nat), (18 : Nat)), ((0 : Nat), (10 : Nat), (17 : Nat), (13 : Nat))] ({ frames := 9, cells := 8 * ((B6 - v0_fam.1)), slots := 96 * ((B6 - v0_fam.1)), locals := 201 } : Room) D dT [.ref (a0 0), .int p1, .int p2, .ref b3] ([wH dT a0 h_tape h_reader h_friends (a0_dusk 0) (a0_fam 0 0) (a0_coming 0) h_acts h_seen h_pairs h_trials h_imageNow h_imageActs h_imageSeen v0, wC dT a0_coming (a0_dusk 0) (a0_fam 0 0) (a0_known 0) (pim a0_fam v0_fam.2.1) v0_coming, wD dT a0_dusk (a0_dpicks 0) (a0_dkeeps 0) v0_dusk, wR dT a0_dpicks v0_dpicks, wR dT a0_dkeeps v0_dkeeps, wK dT a0_known v0_known, wRw dT v0_fam.1 a0_fam v0_fam.2.2, [(b3, .inl (dT 1, 1, .inr (.inl u3)))]]) (fun u : (Nat → Nat → Nat) => (∀ k, k < v0_fam.1 → u k = a0_fam k)) (fun u : (Nat → Nat → Nat) => [wH dT a0 h_tape h_reader h_friends (a0_dusk 0) (u 0 0) (a0_coming 0) h_acts h_seen h_pairs h_trials h_imageNow h_imageActs h_imageSeen v0, wC dT a0_coming (a0_dusk 0) (u 0 0) (a0_known 0) (pim u res.2.2.2.2.2.2.1.2.1) res.2.1, wD dT a0_dusk (a0_dpicks 0) (a0_dkeeps 0) res.2.2.1, wR dT a0_dpicks res.2.2.2.1, wR dT a0_dkeeps res.2.2.2.2.1, wK dT a0_known res.2.2.2.2.2.1, wRw dT res.2.2.2.2.2.2.1.1 u res.2.2.2.2.2.2.1.2.2, [(b3, .inl (dT 1, 1, .inr (.inl res.2.2.2.2.2.2.2)))]]) res.1 (8 * ((B6 - v0_fam.1))) (96 * ((B6 - v0_fam.1))) := by
  refine CWi.of (by decide) (Nat.le_of_ble_eq_true rfl) rfl ?_
  intro p e s m args below meth c A C EX htab
  have E := EX.1
  unfold f_L_ahead at hf
  have hm6 : v0_fam.1 ≤ v0_fam.1 := Nat.le_refl _
  have hb6 : v0_fam.1 - v0_fam.1 ≤ B6 - v0_fam.1 := by omega
  have hg6 : ∀ k, k < v0_fam.1 → a0_fam k = a0_fam k := fun _ _ => rfl
  refine wa_widen (k := (8 * ((v0_fam.1 - v0_fam.1)))) (n := (96 * ((v0_fam.1 - v0_fam.1)))) (Nat.zero_le _) (Nat.zero_le _) ?_
  refine wa_aload_n C 3 1 dL_ahead_0 rfl rfl ?_
  refine wa_iconst (v := 0) C 2 dL_ahead_1 rfl rfl ?_
  refine wa_aload_n C 0 3 dL_ahead_2 rfl rfl ?_
  refine wa_iload_n C 1 4 dL_ahead_3 rfl rfl ?_
  refine wa_iload_n C 2 5 dL_ahead_4 rfl rfl ?_
  obtain ⟨q1, hq1, hf⟩ := bind_ex hf
  obtain ⟨g2, hf⟩ := grd_ex hf
  replace g2 := of_decide_eq_true g2
  refine wa_callMi (b1 := 0) (q1 := 0) (ci := 11) (As := [.int p1, .int p2]) C (fun (ru3 : (Nat → Nat → Nat)) => [wH dT a0 h_tape h_reader h_friends (a0_dusk 0) (ru3 0 0) (a0_coming 0) h_acts h_seen h_pairs h_trials h_imageNow h_imageActs h_imageSeen v0, wC dT a0_coming (a0_dusk 0) (ru3 0 0) (a0_known 0) (pim ru3 q1.2.2.2.2.2.2.2.1) q1.2.1, wD dT a0_dusk (a0_dpicks 0) (a0_dkeeps 0) q1.2.2.1, wR dT a0_dpicks q1.2.2.2.1, wR dT a0_dkeeps q1.2.2.2.2.1, wK dT a0_known q1.2.2.2.2.2.1, wRw dT q1.2.2.2.2.2.2.1 ru3 q1.2.2.2.2.2.2.2.2, [(b3, .inl (dT 1, 1, .inr (.inl u3)))]]) 8 dL_ahead_5 rfl kv_L_101 (c_X11_ahead hq1) ⟨rfl, rfl⟩ ⟨Nat.le_of_ble_eq_true rfl, Nat.le_of_ble_eq_true rfl⟩ rfl rfl rfl [0, 1, 2, 3, 4, 5, 6] [7] [1, 2, 3, 4, 5, 6, 7, 0] rfl rfl rfl rfl (by decide) rfl (fun _ => rfl) rfl rfl ⟨by show (8 * ((v0_fam.1 - v0_fam.1))) + 8 * ((B6 - v0_fam.1)) ≤ 8 * ((B6 - v0_fam.1)); omega, by show (96 * ((v0_fam.1 - v0_fam.1))) + 96 * ((B6 - v0_fam.1)) ≤ 96 * ((B6 - v0_fam.1)); omega⟩ (Nat.le_of_ble_eq_true rfl) (fun ru3 hu => ?_)
  refine wa_widen (k := (8 * ((B6 - v0_fam.1)))) (n := (96 * ((B6 - v0_fam.1)))) (by omega) (by omega) ?_
  replace hg6 : ∀ k, k < v0_fam.1 → ru3 k = a0_fam k := fun k hk => (hu k (by omega)).trans (hg6 k hk)
  replace hm6 : v0_fam.1 ≤ q1.2.2.2.2.2.2.1 := by omega
  replace hb6 : q1.2.2.2.2.2.2.1 - v0_fam.1 ≤ B6 - v0_fam.1 := by omega
  refine wa_i2l C 9 dL_ahead_8 rfl ?_
  obtain ⟨g4, hf⟩ := grd_ex hf
  obtain ⟨y5, ey5, hf⟩ := bnd_ex hf
  refine wa_last (ws' := [wH dT a0 h_tape h_reader h_friends (a0_dusk 0) (ru3 0 0) (a0_coming 0) h_acts h_seen h_pairs h_trials h_imageNow h_imageActs h_imageSeen v0, wC dT a0_coming (a0_dusk 0) (ru3 0 0) (a0_known 0) (pim ru3 q1.2.2.2.2.2.2.2.1) q1.2.1, wD dT a0_dusk (a0_dpicks 0) (a0_dkeeps 0) q1.2.2.1, wR dT a0_dpicks q1.2.2.2.1, wR dT a0_dkeeps q1.2.2.2.2.1, wK dT a0_known q1.2.2.2.2.2.1, wRw dT q1.2.2.2.2.2.2.1 ru3 q1.2.2.2.2.2.2.2.2, [(b3, .inl (dT 1, 1, .inr (.inl y5)))]]) C 10 7 0 dL_ahead_9 rfl rfl rfl (vi_in g4) (by rw [ey5]; rfl) ?_
  refine wa_goto C 21 dL_ahead_10 rfl ?_
  refine wa_iconst (v := 0) C 22 dL_ahead_21 rfl rfl ?_
  cases hf
  exact wa_irm C (ru3) dL_ahead_22 hg6 rfl rfl (by show (8 * ((B6 - v0_fam.1))) ≤ 8 * ((B6 - v0_fam.1)); omega) (by show (96 * ((B6 - v0_fam.1))) ≤ 96 * ((B6 - v0_fam.1)); omega)
