def STP (x : Int32) (z z' : LZ) (B1 B2 B3 : Nat) (ar : Nat → Int32) : Prop := if x = 0 then SK_feed z z' B1 B2 B3 ar else if x = 1 then SK_village z z' B1 B2 B3 ar else if x = 2 then SK_fault z z' B1 B2 B3 ar else if x = 3 then SK_count z z' B1 B2 B3 ar else if x = 4 then SK_person z z' B1 B2 B3 ar else if x = 5 then SK_house z z' B1 B2 B3 ar else if x = 6 then SK_evenings z z' B1 B2 B3 ar else if x = 7 then SK_move z z' B1 B2 B3 ar else if x = 8 then SK_found z z' B1 B2 B3 ar else if x = 9 then SK_join z z' B1 B2 B3 ar else if x = 10 then SK_rank z z' B1 B2 B3 ar else if x = 11 then SK_undo z z' B1 B2 B3 ar else if x = 12 then SK_then z z' B1 B2 B3 ar else if x = 13 then SK_size z z' B1 B2 B3 ar else if x = 14 then SK_later z z' B1 B2 B3 ar else if x = 15 then SK_meet z z' B1 B2 B3 ar else if x = 16 then SK_together z z' B1 B2 B3 ar else if x = 17 then SK_goes z z' B1 B2 B3 ar else if x = 18 then SK_falls z z' B1 B2 B3 ar else if x = 19 then SK_who z z' B1 B2 B3 ar else if x = 20 then SK_round z z' B1 B2 B3 ar else if x = 21 then SK_asNow z z' B1 B2 B3 ar else if x = 22 then SK_known z z' B1 B2 B3 ar else if x = 23 then SK_allKnown z z' B1 B2 B3 ar else if x = 24 then SK_toMeet z z' B1 B2 B3 ar else if x = 25 then SK_partners z z' B1 B2 B3 ar else if x = 26 then SK_halves z z' B1 B2 B3 ar else if x = 27 then SK_chain z z' B1 B2 B3 ar else if x = 28 then SK_see z z' B1 B2 B3 ar else if x = 29 then SK_forget z z' B1 B2 B3 ar else if x = 30 then SK_ranked z z' B1 B2 B3 ar else if x = 31 then SK_look z z' B1 B2 B3 ar else if x = 32 then SK_storms z z' B1 B2 B3 ar else if x = 33 then SK_game z z' B1 B2 B3 ar else if x = 34 then SK_years z z' B1 B2 B3 ar else if x = 35 then SK_ahead z z' B1 B2 B3 ar else if x = 36 then SK_toJoin z z' B1 B2 B3 ar else if x = 37 then SK_image z z' B1 B2 B3 ar else if x = 38 then SK_restore z z' B1 B2 B3 ar else z' = z
abbrev nf1 (z : LZ) : Nat := z.1.2.2.2.1.1
abbrev nf2 (z : LZ) : Nat := z.1.2.2.2.2.1.1
abbrev nf3 (z : LZ) : Nat := z.1.2.2.2.2.2.1
/-- an invariant that every call keeps -/
def GOODI (Inv : LZ → Prop) : Prop := (∀ (z : LZ) (ar : Nat → Int32), Inv z → ∃ (z' : LZ) (B1 B2 B3 : Nat), STP (ar 0 &&& 63) z z' B1 B2 B3 ar ∧ Inv z' ∧ (nf1 z ≤ B1 ∧ nf1 z' = B1) ∧ (nf2 z ≤ B2 ∧ nf2 z' = B2) ∧ (nf3 z ≤ B3 ∧ nf3 z' = B3)) ∧ ∀ z : LZ, Inv z → nf1 z ≤ 201 ∧ nf2 z ≤ 40 ∧ nf3 z ≤ 40
theorem lp_lt {L k : Nat} (hL : L ≤ 3072) (hk : k ≤ 3072) (h : ¬ Int32.ofNat L - 6 < nI k) : k + 6 ≤ L := by
  have e1 : (Int32.ofNat L).toInt = (L : Int) := nI_toInt (n := L) (by omega)
  have e2 : (nI k).toInt = (k : Int) := nI_toInt (by omega)
  have e3 : (Int32.ofNat L - 6).toInt = (L : Int) - 6 := by
    rw [Int32.toInt_sub, e1, show (6 : Int32).toInt = 6 from rfl]
    simp only [Int.bmod]
    omega
  rw [Int32.lt_iff_toInt_lt, e3, e2] at h
  omega
theorem lp_in {L i n : Nat} (h : i + n < L) (hL : L ≤ 3072) : vp_in (nI i + Int32.ofNat n) L ∧ (nI i + Int32.ofNat n).toNatClampNeg = i + n := by
  have e : nI i + Int32.ofNat n = nI (i + n) := nI_add i n
  rw [e]
  exact ⟨vp_in_nI h (by omega), nI_clamp (by omega)⟩
section WLL
variable {p : Program} {l : Launch} {e : Env} {R : Room} {s : State} {m : MethodId} {args : Array Value} {below : List Frame} {meth : Method} {c : Code} {Q : State → Prop} {D : va_G} {A : Nat → Prop} {dT : Nat → ClassId} {cells slots nL pc : Nat} {ws ws' : List va_W} {lv lv' : List (Nat × Value)} {st : List Value} {cc : ByteArray} {own : String} {rt : Option FieldType}
theorem wl_slen (C : Cx p s m args meth c cc nL own rt D (AL s) dT) {b L : Nat} {xs : Nat → Int32} (hX : va_X b L xs s s.heap) (hb : b < s.heap.size) (n1 : Nat) (hdg : decode cc pc = .ok (.arraylength, 1)) (hn : pc + 1 = n1) (k : WA p l e R s m args below meth c Q D (AL s) cells slots nL n1 ws lv (.int (Int32.ofNat L) :: st)) : WA p l e R s m args below meth c Q D (AL s) cells slots nL pc ws lv (.ref b :: st) := by
  subst hn
  exact fun H locs ls hP hD hS hl => va_slen C.1 C.2.1 hX hb (Nat.not_le.mpr hb) hS hdg (k H locs ls hP hD hS hl)
theorem wl_sld (C : Cx p s m args meth c cc nL own rt D (AL s) dT) {b L : Nat} {xs : Nat → Int32} {j : Int32} (hX : va_X b L xs s s.heap) (hb : b < s.heap.size) (n1 : Nat) (hdg : decode cc pc = .ok (.iaload, 1)) (hn : pc + 1 = n1) (hj : vp_in j L) (k : WA p l e R s m args below meth c Q D (AL s) cells slots nL n1 ws lv (.int (xs j.toNatClampNeg) :: st)) : WA p l e R s m args below meth c Q D (AL s) cells slots nL pc ws lv (.int j :: .ref b :: st) := by
  subst hn
  exact fun H locs ls hP hD hS hl => va_sld C.1 C.2.1 hX hb (Nat.not_le.mpr hb) hS hj hdg (k H locs ls hP hD hS hl)
/-- the law's end -/
theorem wl_ret {b : Nat} (C : Cx p s m #[.ref b] meth c code 7 R_law ret D (AL s) dT) (hdg : decode code pc = .ok (.ireturn, 1)) (hc : cells ≤ lw_rc) (hs : slots ≤ lw_rs) : WA p l e room_1 s m #[.ref b] below meth c (lw_Z below #[.ref b] s) D (AL s) cells slots 7 pc ws lv [.int 1] := by
  intro H locs ls hP hD hS hl
  refine va_forget (fun q hq => hS.2.2 q hq) ?_
  refine W.widen (k := lw_rc) (n := lw_rs) hc hs ?_
  exact lw_ret C.1 C.2.1 C.2.2.2.2.2.2.2.1 C.2.2.2.2.2.2.2.2 hdg
end WLL
set_option maxRecDepth 20000 in
set_option maxHeartbeats 2000000 in
theorem law_loop {p : Program} {l : Launch} {e : Env} {s : State} {m : MethodId} {below : List Frame} {meth : Method} {c : Code} {D : va_G} {dT : Nat → ClassId} {b L : Nat} {xs : Nat → Int32} {aK aV : Nat → Nat} {aM : Nat → Nat} {bo : Nat} {Inv : LZ → Prop} (hG : GOODI Inv) (hl : l.stackTraces = false) (C : Cx p s m #[.ref b] meth c code 7 R_law ret D (AL s) dT) (E : AMX aK aV (AL s) s s.heap) (hX : va_X b L xs s s.heap) (hb : b < s.heap.size) (hL : L ≤ 3072) : ∀ (n k : Nat) (i : Int32) (z : LZ) (u r1 r2 r3 : Nat → Nat → Nat) (cells slots : Nat), Inv z → i = nI k → k ≤ L → L + 6 ≤ k + 6 * n → cells + 8 * ((201 - nf1 z) + (40 - nf2 z) + (40 - nf3 z)) + n ≤ lw_rc → slots + 96 * ((201 - nf1 z) + (40 - nf2 z) + (40 - nf3 z)) + 6 * n ≤ lw_rs → WA p l e room_1 s m #[.ref b] below meth c (lw_Z below #[.ref b] s) D (AL s) cells slots 7 23 (wL dT u r1 r2 r3 aM bo z) [(0, .ref b), (1, .ref (u 0 0)), (2, .ref (aM 0)), (3, .ref bo), (4, .int i)] [] := by
  intro n
  induction n with
  | zero =>
    intro k i z u r1 r2 r3 cells slots hI ei hk hn
    exact absurd hn (by omega)
  | succ n ih =>
    intro k i z u r1 r2 r3 cells slots hI ei hk hn hc hs
    have hbd := hG.2 z hI
    refine wa_iload C 4 25 dL_law_23 rfl rfl ?_
    refine wa_aload_n C 0 26 dL_law_25 rfl rfl ?_
    refine wl_slen C hX hb 27 dL_law_26 rfl ?_
    refine wa_bipush (v := 6) C 29 dL_law_27 rfl rfl ?_
    refine wa_isub C 30 dL_law_29 rfl ?_
    refine wa_icmp_gt C 2388 33 dL_law_30 rfl rfl (fun c1 => ?_) (fun c1 => ?_)
    · refine wa_iconst (v := 1) C 2389 dL_law_2388 rfl rfl ?_
      exact wl_ret C dL_law_2389 (by omega) (by omega)
    · rw [ei] at c1
      have hlt := lp_lt hL (by omega) c1
      have hH : HL s b L xs i (fun n => xs (k + n)) := ⟨hX, hb, fun n9 h9 => by
        have := lp_in (L := L) (i := k) (n := n9) (by omega) hL
        rw [ei]
        exact ⟨this.1, by rw [this.2]⟩⟩
      have h0 := lp_in (L := L) (i := k) (n := 0) (by omega) hL
      have h1 : vp_in i L ∧ i.toNatClampNeg = k + 0 := by rw [ei]; rw [show nI k + Int32.ofNat 0 = nI k from nI_add k 0] at h0; exact h0
      obtain ⟨z', B1, B2, B3, hst, hI', ⟨g1, g1'⟩, ⟨g2, g2'⟩, ⟨g3, g3'⟩⟩ := hG.1 z (fun n => xs (k + n)) hI
      have hbd' := hG.2 z' hI'
      rw [g1', g2', g3'] at hbd'
      have hc2 : cells + (8 * ((B1 - nf1 z) + (B2 - nf2 z) + (B3 - nf3 z)) + 1) ≤ lw_rc := by omega
      have hs2 : slots + (96 * ((B1 - nf1 z) + (B2 - nf2 z) + (B3 - nf3 z)) + 6) ≤ lw_rs := by omega
      have K : ∀ u' r1' r2' r3' : Nat → Nat → Nat, WA p l e room_1 s m #[.ref b] below meth c (lw_Z below #[.ref b] s) D (AL s) (cells + (8 * ((B1 - nf1 z) + (B2 - nf2 z) + (B3 - nf3 z)) + 1)) (slots + (96 * ((B1 - nf1 z) + (B2 - nf2 z) + (B3 - nf3 z)) + 6)) 7 2382 (wL dT u' r1' r2' r3' aM bo z') [(0, .ref b), (1, .ref (u' 0 0)), (2, .ref (aM 0)), (3, .ref bo), (4, .int i)] [] := by
        intro u' r1' r2' r3'
        refine wa_iinc (v := i + 6) (lv' := [(0, .ref b), (1, .ref (u' 0 0)), (2, .ref (aM 0)), (3, .ref bo), (4, .int (i + 6))]) C 4 [1, 2, 3, 4, 0] 2385 dL_law_2382 rfl rfl rfl (Nat.le_of_ble_eq_true rfl) rfl ?_
        refine wa_goto C 23 dL_law_2385 rfl ?_
        exact ih (k + 6) (i + 6) z' u' r1' r2' r3' _ _ hI' (by rw [ei]; exact nI_add k 6) (by omega) (by omega) (by rw [g1', g2', g3']; omega) (by rw [g1', g2', g3']; omega)
      refine wa_aload_n C 0 34 dL_law_33 rfl rfl ?_
      refine wa_iload C 4 36 dL_law_34 rfl rfl ?_
      refine wl_sld C hX hb 37 dL_law_36 rfl h1.1 ?_
      refine wa_bipush (v := 63) C 39 dL_law_37 rfl rfl ?_
      refine wa_iand C 40 dL_law_39 rfl ?_
      refine wa_topi (y := xs (k + 0) &&& 63) (by rw [h1.2]) ?_
      have hst2 : STP (xs (k + 0) &&& 63) z z' B1 B2 B3 (fun n => xs (k + n)) := hst
      unfold STP at hst2
      generalize xs (k + 0) &&& 63 = x at hst2 ⊢
      by_cases d0 : x = 0
      · rw [if_pos d0] at hst2
        refine wa_ts C 0 (172) 212 dL_law_40 d0 (by decide) (by decide) rfl rfl ?_
        exact L_feed hl C E hH hst2 hc2 hs2 K
      · rw [if_neg d0] at hst2
        by_cases d1 : x = 1
        · rw [if_pos d1] at hst2
          refine wa_ts C 1 (245) 285 dL_law_40 d1 (by decide) (by decide) rfl rfl ?_
          exact L_village hl C E hH hst2 hc2 hs2 K
        · rw [if_neg d1] at hst2
          by_cases d2 : x = 2
          · rw [if_pos d2] at hst2
            refine wa_ts C 2 (301) 341 dL_law_40 d2 (by decide) (by decide) rfl rfl ?_
            exact L_fault hl C E hH hst2 hc2 hs2 K
          · rw [if_neg d2] at hst2
            by_cases d3 : x = 3
            · rw [if_pos d3] at hst2
              refine wa_ts C 3 (314) 354 dL_law_40 d3 (by decide) (by decide) rfl rfl ?_
              exact L_count hl C E hH hst2 hc2 hs2 K
            · rw [if_neg d3] at hst2
              by_cases d4 : x = 4
              · rw [if_pos d4] at hst2
                refine wa_ts C 4 (370) 410 dL_law_40 d4 (by decide) (by decide) rfl rfl ?_
                exact L_person hl C E hH hst2 hc2 hs2 K
              · rw [if_neg d4] at hst2
                by_cases d5 : x = 5
                · rw [if_pos d5] at hst2
                  refine wa_ts C 5 (438) 478 dL_law_40 d5 (by decide) (by decide) rfl rfl ?_
                  exact L_house hl C E hH hst2 hc2 hs2 K
                · rw [if_neg d5] at hst2
                  by_cases d6 : x = 6
                  · rw [if_pos d6] at hst2
                    refine wa_ts C 6 (506) 546 dL_law_40 d6 (by decide) (by decide) rfl rfl ?_
                    exact L_evenings hl C E hH hst2 hc2 hs2 K
                  · rw [if_neg d6] at hst2
                    by_cases d7 : x = 7
                    · rw [if_pos d7] at hst2
                      refine wa_ts C 7 (531) 571 dL_law_40 d7 (by decide) (by decide) rfl rfl ?_
                      exact L_move hl C E hH hst2 hc2 hs2 K
                    · rw [if_neg d7] at hst2
                      by_cases d8 : x = 8
                      · rw [if_pos d8] at hst2
                        refine wa_ts C 8 (599) 639 dL_law_40 d8 (by decide) (by decide) rfl rfl ?_
                        exact L_found hl C E hH hst2 hc2 hs2 K
                      · rw [if_neg d8] at hst2
                        by_cases d9 : x = 9
                        · rw [if_pos d9] at hst2
                          refine wa_ts C 9 (655) 695 dL_law_40 d9 (by decide) (by decide) rfl rfl ?_
                          exact L_join hl C E hH hst2 hc2 hs2 K
                        · rw [if_neg d9] at hst2
                          by_cases d10 : x = 10
                          · rw [if_pos d10] at hst2
                            refine wa_ts C 10 (723) 763 dL_law_40 d10 (by decide) (by decide) rfl rfl ?_
                            exact L_rank hl C E hH hst2 hc2 hs2 K
                          · rw [if_neg d10] at hst2
                            by_cases d11 : x = 11
                            · rw [if_pos d11] at hst2
                              refine wa_ts C 11 (791) 831 dL_law_40 d11 (by decide) (by decide) rfl rfl ?_
                              exact L_undo hl C E hH hst2 hc2 hs2 K
                            · rw [if_neg d11] at hst2
                              by_cases d12 : x = 12
                              · rw [if_pos d12] at hst2
                                refine wa_ts C 12 (804) 844 dL_law_40 d12 (by decide) (by decide) rfl rfl ?_
                                exact L_then hl C E hH hst2 hc2 hs2 K
                              · rw [if_neg d12] at hst2
                                by_cases d13 : x = 13
                                · rw [if_pos d13] at hst2
                                  refine wa_ts C 13 (884) 924 dL_law_40 d13 (by decide) (by decide) rfl rfl ?_
                                  exact L_size hl C E hH hst2 hc2 hs2 K
                                · rw [if_neg d13] at hst2
                                  by_cases d14 : x = 14
                                  · rw [if_pos d14] at hst2
                                    refine wa_ts C 14 (952) 992 dL_law_40 d14 (by decide) (by decide) rfl rfl ?_
                                    exact L_later hl C E hH hst2 hc2 hs2 K
                                  · rw [if_neg d14] at hst2
                                    by_cases d15 : x = 15
                                    · rw [if_pos d15] at hst2
                                      refine wa_ts C 15 (1020) 1060 dL_law_40 d15 (by decide) (by decide) rfl rfl ?_
                                      exact L_meet hl C E hH hst2 hc2 hs2 K
                                    · rw [if_neg d15] at hst2
                                      by_cases d16 : x = 16
                                      · rw [if_pos d16] at hst2
                                        refine wa_ts C 16 (1100) 1140 dL_law_40 d16 (by decide) (by decide) rfl rfl ?_
                                        exact L_together hl C E hH hst2 hc2 hs2 K
                                      · rw [if_neg d16] at hst2
                                        by_cases d17 : x = 17
                                        · rw [if_pos d17] at hst2
                                          refine wa_ts C 17 (1180) 1220 dL_law_40 d17 (by decide) (by decide) rfl rfl ?_
                                          exact L_goes hl C E hH hst2 hc2 hs2 K
                                        · rw [if_neg d17] at hst2
                                          by_cases d18 : x = 18
                                          · rw [if_pos d18] at hst2
                                            refine wa_ts C 18 (1248) 1288 dL_law_40 d18 (by decide) (by decide) rfl rfl ?_
                                            exact L_falls hl C E hH hst2 hc2 hs2 K
                                          · rw [if_neg d18] at hst2
                                            by_cases d19 : x = 19
                                            · rw [if_pos d19] at hst2
                                              refine wa_ts C 19 (1304) 1344 dL_law_40 d19 (by decide) (by decide) rfl rfl ?_
                                              exact L_who hl C E hH hst2 hc2 hs2 K
                                            · rw [if_neg d19] at hst2
                                              by_cases d20 : x = 20
                                              · rw [if_pos d20] at hst2
                                                refine wa_ts C 20 (1384) 1424 dL_law_40 d20 (by decide) (by decide) rfl rfl ?_
                                                exact L_round hl C E hH hst2 hc2 hs2 K
                                              · rw [if_neg d20] at hst2
                                                by_cases d21 : x = 21
                                                · rw [if_pos d21] at hst2
                                                  refine wa_ts C 21 (1440) 1480 dL_law_40 d21 (by decide) (by decide) rfl rfl ?_
                                                  exact L_asNow hl C E hH hst2 hc2 hs2 K
                                                · rw [if_neg d21] at hst2
                                                  by_cases d22 : x = 22
                                                  · rw [if_pos d22] at hst2
                                                    refine wa_ts C 22 (1453) 1493 dL_law_40 d22 (by decide) (by decide) rfl rfl ?_
                                                    exact L_known hl C E hH hst2 hc2 hs2 K
                                                  · rw [if_neg d22] at hst2
                                                    by_cases d23 : x = 23
                                                    · rw [if_pos d23] at hst2
                                                      refine wa_ts C 23 (1521) 1561 dL_law_40 d23 (by decide) (by decide) rfl rfl ?_
                                                      exact L_allKnown hl C E hH hst2 hc2 hs2 K
                                                    · rw [if_neg d23] at hst2
                                                      by_cases d24 : x = 24
                                                      · rw [if_pos d24] at hst2
                                                        refine wa_ts C 24 (1534) 1574 dL_law_40 d24 (by decide) (by decide) rfl rfl ?_
                                                        exact L_toMeet hl C E hH hst2 hc2 hs2 K
                                                      · rw [if_neg d24] at hst2
                                                        by_cases d25 : x = 25
                                                        · rw [if_pos d25] at hst2
                                                          refine wa_ts C 25 (1602) 1642 dL_law_40 d25 (by decide) (by decide) rfl rfl ?_
                                                          exact L_partners hl C E hH hst2 hc2 hs2 K
                                                        · rw [if_neg d25] at hst2
                                                          by_cases d26 : x = 26
                                                          · rw [if_pos d26] at hst2
                                                            refine wa_ts C 26 (1658) 1698 dL_law_40 d26 (by decide) (by decide) rfl rfl ?_
                                                            exact L_halves hl C E hH hst2 hc2 hs2 K
                                                          · rw [if_neg d26] at hst2
                                                            by_cases d27 : x = 27
                                                            · rw [if_pos d27] at hst2
                                                              refine wa_ts C 27 (1714) 1754 dL_law_40 d27 (by decide) (by decide) rfl rfl ?_
                                                              exact L_chain hl C E hH hst2 hc2 hs2 K
                                                            · rw [if_neg d27] at hst2
                                                              by_cases d28 : x = 28
                                                              · rw [if_pos d28] at hst2
                                                                refine wa_ts C 28 (1782) 1822 dL_law_40 d28 (by decide) (by decide) rfl rfl ?_
                                                                exact L_see hl C E hH hst2 hc2 hs2 K
                                                              · rw [if_neg d28] at hst2
                                                                by_cases d29 : x = 29
                                                                · rw [if_pos d29] at hst2
                                                                  refine wa_ts C 29 (1862) 1902 dL_law_40 d29 (by decide) (by decide) rfl rfl ?_
                                                                  exact L_forget hl C E hH hst2 hc2 hs2 K
                                                                · rw [if_neg d29] at hst2
                                                                  by_cases d30 : x = 30
                                                                  · rw [if_pos d30] at hst2
                                                                    refine wa_ts C 30 (1873) 1913 dL_law_40 d30 (by decide) (by decide) rfl rfl ?_
                                                                    exact L_ranked hl C E hH hst2 hc2 hs2 K
                                                                  · rw [if_neg d30] at hst2
                                                                    by_cases d31 : x = 31
                                                                    · rw [if_pos d31] at hst2
                                                                      refine wa_ts C 31 (1929) 1969 dL_law_40 d31 (by decide) (by decide) rfl rfl ?_
                                                                      exact L_look hl C E hH hst2 hc2 hs2 K
                                                                    · rw [if_neg d31] at hst2
                                                                      by_cases d32 : x = 32
                                                                      · rw [if_pos d32] at hst2
                                                                        refine wa_ts C 32 (1985) 2025 dL_law_40 d32 (by decide) (by decide) rfl rfl ?_
                                                                        exact L_storms hl C E hH hst2 hc2 hs2 K
                                                                      · rw [if_neg d32] at hst2
                                                                        by_cases d33 : x = 33
                                                                        · rw [if_pos d33] at hst2
                                                                          refine wa_ts C 33 (2077) 2117 dL_law_40 d33 (by decide) (by decide) rfl rfl ?_
                                                                          exact L_game hl C E hH hst2 hc2 hs2 K
                                                                        · rw [if_neg d33] at hst2
                                                                          by_cases d34 : x = 34
                                                                          · rw [if_pos d34] at hst2
                                                                            refine wa_ts C 34 (2157) 2197 dL_law_40 d34 (by decide) (by decide) rfl rfl ?_
                                                                            exact L_years hl C E hH hst2 hc2 hs2 K
                                                                          · rw [if_neg d34] at hst2
                                                                            by_cases d35 : x = 35
                                                                            · rw [if_pos d35] at hst2
                                                                              refine wa_ts C 35 (2237) 2277 dL_law_40 d35 (by decide) (by decide) rfl rfl ?_
                                                                              exact L_ahead hl C E hH hst2 hc2 hs2 K
                                                                            · rw [if_neg d35] at hst2
                                                                              by_cases d36 : x = 36
                                                                              · rw [if_pos d36] at hst2
                                                                                refine wa_ts C 36 (2305) 2345 dL_law_40 d36 (by decide) (by decide) rfl rfl ?_
                                                                                exact L_toJoin hl C E hH hst2 hc2 hs2 K
                                                                              · rw [if_neg d36] at hst2
                                                                                by_cases d37 : x = 37
                                                                                · rw [if_pos d37] at hst2
                                                                                  refine wa_ts C 37 (2318) 2358 dL_law_40 d37 (by decide) (by decide) rfl rfl ?_
                                                                                  exact L_image hl C E hH hst2 hc2 hs2 K
                                                                                · rw [if_neg d37] at hst2
                                                                                  by_cases d38 : x = 38
                                                                                  · rw [if_pos d38] at hst2
                                                                                    refine wa_ts C 38 (2329) 2369 dL_law_40 d38 (by decide) (by decide) rfl rfl ?_
                                                                                    exact L_restore hl C E hH hst2 hc2 hs2 K
                                                                                  · rw [if_neg d38] at hst2
                                                                                    refine wa_tsd C 2382 dL_law_40 (ts_out (0) 39 (nts_s (nts_s (nts_s (nts_s (nts_s (nts_s (nts_s (nts_s (nts_s (nts_s (nts_s (nts_s (nts_s (nts_s (nts_s (nts_s (nts_s (nts_s (nts_s (nts_s (nts_s (nts_s (nts_s (nts_s (nts_s (nts_s (nts_s (nts_s (nts_s (nts_s (nts_s (nts_s (nts_s (nts_s (nts_s (nts_s (nts_s (nts_s (nts_s nts_0 rfl d0) rfl d1) rfl d2) rfl d3) rfl d4) rfl d5) rfl d6) rfl d7) rfl d8) rfl d9) rfl d10) rfl d11) rfl d12) rfl d13) rfl d14) rfl d15) rfl d16) rfl d17) rfl d18) rfl d19) rfl d20) rfl d21) rfl d22) rfl d23) rfl d24) rfl d25) rfl d26) rfl d27) rfl d28) rfl d29) rfl d30) rfl d31) rfl d32) rfl d33) rfl d34) rfl d35) rfl d36) rfl d37) rfl d38)) rfl ?_
                                                                                    subst hst2
                                                                                    exact wa_widen (by omega) (by omega) (K u r1 r2 r3)
