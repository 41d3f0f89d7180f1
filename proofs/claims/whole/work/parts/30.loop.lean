theorem yl_gt {L a : Nat} (hL : L ≤ 2048) (ha : a ≤ 2048) : nI L - 4 < nI a ↔ L < a + 4 := by
  have e1 : (nI L - 4).toInt = (L : Int) - 4 := pk_sub_toInt (a := L) (b := 4) (by omega) (by decide)
  rw [Int32.lt_iff_toInt_lt, e1, nI_toInt (by omega)]
  omega
theorem yl_out {x : Int32} (h0 : ¬ x = 0) (h1 : ¬ x = 1) (h2 : ¬ x = 2) (h3 : ¬ x = 3) (h4 : ¬ x = 4) (h5 : ¬ x = 5) (h6 : ¬ x = 6) (h7 : ¬ x = 7) (h8 : ¬ x = 8) (h9 : ¬ x = 9) : x.toInt < 0 ∨ 9 < x.toInt := by
  have k : ∀ c : Int32, ¬ x = c → ¬ x.toInt = c.toInt := fun c h q => h (Int32.toInt_inj.mp q)
  have k0 := k 0 h0
  have k1 := k 1 h1
  have k2 := k 2 h2
  have k3 := k 3 h3
  have k4 := k 4 h4
  have k5 := k 5 h5
  have k6 := k 6 h6
  have k7 := k 7 h7
  have k8 := k 8 h8
  have k9 := k 9 h9
  have e0 : (0 : Int32).toInt = 0 := by decide
  have e1 : (1 : Int32).toInt = 1 := by decide
  have e2 : (2 : Int32).toInt = 2 := by decide
  have e3 : (3 : Int32).toInt = 3 := by decide
  have e4 : (4 : Int32).toInt = 4 := by decide
  have e5 : (5 : Int32).toInt = 5 := by decide
  have e6 : (6 : Int32).toInt = 6 := by decide
  have e7 : (7 : Int32).toInt = 7 := by decide
  have e8 : (8 : Int32).toInt = 8 := by decide
  have e9 : (9 : Int32).toInt = 9 := by decide
  omega
set_option maxRecDepth 100000 in
set_option maxHeartbeats 8000000 in
/-- the law's loop -/
theorem lw_loop {p : Program} {l : Launch} {e : Env} {s : State} {m : MethodId} {below : List Frame} {meth : Method} {c : Code} {dC : Nat → ClassId} {dI : Nat → Nat → Nat} {bs L : Nat} {xs : Nat → Int32} (hlt : l.stackTraces = false) (hL : L ≤ 2048) (C0 : lw_At p s m meth c bs L xs) {ca : Nat → ClassId} {ad : Nat → Nat} {co : ClassId} {oa : Nat} {cm : Nat → ClassId} {am : Nat → Nat} (hK : va_K (dC, dI) vwCl (lwT ca co cm) s) (hX : xwP (fun q : Nat => s.heap.size ≤ q) s) : ∀ d j : Nat, 4 * j ≤ L → L + 1 ≤ 4 * j + 4 * d → lw_go p l e s m below meth c dC dI bs ca ad co oa cm am (4 * j) 23 (17 + 2 * j) (2756 + 12 * j) := by
  intro d
  induction d with
  | zero =>
    intro j h1 h2
    exact absurd h2 (by omega)
  | succ d ih =>
    intro j hj0 hd0
    have K0 : 4 * j + 4 ≤ L → lw_go p l e s m below meth c dC dI bs ca ad co oa cm am (4 * j) 635 (19 + 2 * j) (2768 + 12 * j) := by
      intro hj t k v b n kd ln w nw ins o th hd so fq hji H locs hP hD hS ls hl
      obtain ⟨hx, hb, hr, hml, hown0, hts0, hXs, hbl, hlocks, hgv⟩ := C0
      refine lv_iinc (v := nI (4 * j + 4)) (lv' := [(4, .int (nI (4 * j + 4))), (0, .ref bs), (1, .ref (ad 0)), (2, .ref (am 0)), (3, .ref oa)]) hx hb dL_law_635 hl (k := 4) rfl (yn_inck4 _) (by decide) rfl (fun ls hl => ?_)
      refine lv_goto (tgt := 23) hx hb dL_law_638 (by decide) ?_
      have g := ih (j + 1) (by omega) (by omega)
      rw [show 17 + 2 * (j + 1) = 19 + 2 * j by omega, show 2756 + 12 * (j + 1) = 2768 + 12 * j by omega, show 4 * (j + 1) = 4 * j + 4 by omega] at g
      exact g t k v b n kd ln w nw ins o th hd so fq hji H locs hP hD hS ls (lv_sub hl [1, 2, 3, 4, 0] rfl)
    intro t k v b n kd ln w nw ins o th hd so fq hji H locs hP hD hS ls hl
    obtain ⟨hx, hb, hr, hml, hown0, hts0, hXs, hbl, hlocks, hgv⟩ := id C0
    have hbA : ¬ (fun q : Nat => s.heap.size ≤ q) bs := Nat.not_le.mpr hbl
    refine lv_iload hx hb dL_law_23 (lv_at hl 4 rfl) ?_
    refine lv_aload_n hx hb dL_law_25 rfl (lv_at hl 0 rfl) ?_
    refine va_slen hx hb hXs hbl hbA hS dL_law_26 ?_
    refine lv_iconst (v := 4) hx hb dL_law_27 (by decide) ?_
    refine lv_isub hx hb dL_law_28 ?_
    refine lv_icmp_gt (tgt := 641) hx hb dL_law_29 (by decide) (fun c_1 => ?_) (fun c_1 => ?_)
    · refine lv_iconst (v := 1) hx hb dL_law_641 (by decide) ?_
      refine va_forget (fun q hq => hS.2.2 q hq) ?_
      refine W.widen (k := 1052) (n := 11011) (by omega) (by omega) ?_
      exact lw_ret hx hb hr hlocks dL_law_642
    · have hj : 4 * j + 4 ≤ L := by
        have q : ¬ L < 4 * j + 4 := fun q => c_1 ((yl_gt hL (by omega)).mpr q)
        omega
      have hin : ∀ k : Nat, k < 4 → vp_in (nI (4 * j + k)) L := fun k hk => vp_in_nI (by omega) (by omega)
      obtain ⟨y0, ey0⟩ : ∃ y : Int32, xs (nI (4 * j)).toNatClampNeg = y := ⟨_, rfl⟩
      refine lv_aload_n hx hb dL_law_32 rfl (lv_at hl 0 rfl) ?_
      refine lv_iload hx hb dL_law_33 (lv_at hl 4 rfl) ?_
      refine va_sld hx hb hXs hbl hbA hS (hin 0 (by decide)) dL_law_35 ?_
      rw [ey0]
      refine lv_bipush (v := 15) hx hb dL_law_36 (by decide) ?_
      refine lv_iand hx hb dL_law_38 ?_
      generalize y0 &&& 15 = z
      by_cases g0 : z = 0
      · refine lv_tableIn (off := 53) (tgt := 92) hx hb dL_law_39 (by rw [g0]; decide) (by rw [g0]; decide) (by rw [g0]; decide) (by decide) ?_
        exact a_clear hlt hL C0 hK hX j hj (K0 hj) t k v b n kd ln w nw ins o th hd so fq hji H locs hP hD hS ls hl
      · skip
        by_cases g1 : z = 1
        · refine lv_tableIn (off := 64) (tgt := 103) hx hb dL_law_39 (by rw [g1]; decide) (by rw [g1]; decide) (by rw [g1]; decide) (by decide) ?_
          exact a_window hlt hL C0 hK hX j hj (K0 hj) t k v b n kd ln w nw ins o th hd so fq hji H locs hP hD hS ls hl
        · skip
          by_cases g2 : z = 2
          · refine lv_tableIn (off := 132) (tgt := 171) hx hb dL_law_39 (by rw [g2]; decide) (by rw [g2]; decide) (by rw [g2]; decide) (by decide) ?_
            exact a_tuple hlt hL C0 hK hX j hj (K0 hj) t k v b n kd ln w nw ins o th hd so fq hji H locs hP hD hS ls hl
          · skip
            by_cases g3 : z = 3
            · refine lv_tableIn (off := 212) (tgt := 251) hx hb dL_law_39 (by rw [g3]; decide) (by rw [g3]; decide) (by rw [g3]; decide) (by decide) ?_
              exact a_tick hlt hL C0 hK hX j hj (K0 hj) t k v b n kd ln w nw ins o th hd so fq hji H locs hP hD hS ls hl
            · skip
              by_cases g4 : z = 4
              · refine lv_tableIn (off := 248) (tgt := 287) hx hb dL_law_39 (by rw [g4]; decide) (by rw [g4]; decide) (by rw [g4]; decide) (by decide) ?_
                exact a_meter hlt hL C0 hK hX j hj (K0 hj) t k v b n kd ln w nw ins o th hd so fq hji H locs hP hD hS ls hl
              · skip
                by_cases g5 : z = 5
                · refine lv_tableIn (off := 316) (tgt := 355) hx hb dL_law_39 (by rw [g5]; decide) (by rw [g5]; decide) (by rw [g5]; decide) (by decide) ?_
                  exact a_kth hlt hL C0 hK hX j hj (K0 hj) t k v b n kd ln w nw ins o th hd so fq hji H locs hP hD hS ls hl
                · skip
                  by_cases g6 : z = 6
                  · refine lv_tableIn (off := 384) (tgt := 423) hx hb dL_law_39 (by rw [g6]; decide) (by rw [g6]; decide) (by rw [g6]; decide) (by decide) ?_
                    exact a_frequent hlt hL C0 hK hX j hj (K0 hj) t k v b n kd ln w nw ins o th hd so fq hji H locs hP hD hS ls hl
                  · skip
                    by_cases g7 : z = 7
                    · refine lv_tableIn (off := 440) (tgt := 479) hx hb dL_law_39 (by rw [g7]; decide) (by rw [g7]; decide) (by rw [g7]; decide) (by decide) ?_
                      exact a_below hlt hL C0 hK hX j hj (K0 hj) t k v b n kd ln w nw ins o th hd so fq hji H locs hP hD hS ls hl
                    · skip
                      by_cases g8 : z = 8
                      · refine lv_tableIn (off := 508) (tgt := 547) hx hb dL_law_39 (by rw [g8]; decide) (by rw [g8]; decide) (by rw [g8]; decide) (by decide) ?_
                        exact a_has hlt hL C0 hK hX j hj (K0 hj) t k v b n kd ln w nw ins o th hd so fq hji H locs hP hD hS ls hl
                      · skip
                        by_cases g9 : z = 9
                        · refine lv_tableIn (off := 583) (tgt := 622) hx hb dL_law_39 (by rw [g9]; decide) (by rw [g9]; decide) (by rw [g9]; decide) (by decide) ?_
                          exact a_now hlt hL C0 hK hX j hj (K0 hj) t k v b n kd ln w nw ins o th hd so fq hji H locs hP hD hS ls hl
                        · skip
                          refine lv_tableOut (tgt := 635) hx hb dL_law_39 (yl_out g0 g1 g2 g3 g4 g5 g6 g7 g8 g9) (by decide) ?_
                          refine W.widen (k := 19 + 2 * j) (n := 2768 + 12 * j) (by omega) (by omega) ?_
                          exact K0 hj t k v b n kd ln w nw ins o th hd so fq hji H locs hP hD hS ls hl
