set_option maxRecDepth 100000 in
set_option maxHeartbeats 8000000 in
/-- the law's arm: frequent -/
theorem a_frequent {p : Program} {l : Launch} {e : Env} {s : State} {m : MethodId} {below : List Frame} {meth : Method} {c : Code} {dC : Nat → ClassId} {dI : Nat → Nat → Nat} {bs L : Nat} {xs : Nat → Int32} (hlt : l.stackTraces = false) (hL : L ≤ 2048) (C0 : lw_At p s m meth c bs L xs) {ca : Nat → ClassId} {ad : Nat → Nat} {co : ClassId} {oa : Nat} {cm : Nat → ClassId} {am : Nat → Nat} (hK : va_K (dC, dI) vwCl (lwT ca co cm) s) (hX : xwP (fun q : Nat => s.heap.size ≤ q) s) (j : Nat) (hj : 4 * j + 4 ≤ L) (KK : lw_go p l e s m below meth c dC dI bs ca ad co oa cm am (4 * j) 635 (19 + 2 * j) (2768 + 12 * j)) : lw_go p l e s m below meth c dC dI bs ca ad co oa cm am (4 * j) 423 (17 + 2 * j) (2756 + 12 * j) := by
  intro t k v b n kd ln w nw ins o th hd so fq hji H locs hP hD hS ls hl
  obtain ⟨hx, hb, hr, hml, hown0, hts0, hXs, hbl, hlocks, hgv⟩ := C0
  have hown : s.vm.findClass RL = some m.cls := hown0
  have hts : ∀ w ∈ kL_window :: gt, w.before #[Value.ref bs] s = true := fun w h => hts0 w ((List.mem_cons.mp h).elim (fun e => by rw [e]; exact gt_in _ kwL_window) (fun h => gt_in _ h))
  have hA : ∀ q : Nat, s.heap.size ≤ q → (fun q : Nat => s.heap.size ≤ q) q := fun _ h => h
  have hbA : ¬ (fun q : Nat => s.heap.size ≤ q) bs := Nat.not_le.mpr hbl
  have hin : ∀ k : Nat, k < 4 → vp_in (nI (4 * j + k)) L := fun k hk => vp_in_nI (by omega) (by omega)
  obtain ⟨y0, ey0⟩ : ∃ y : Int32, xs (nI (4 * j)).toNatClampNeg = y := ⟨_, rfl⟩
  obtain ⟨y1, ey1⟩ : ∃ y : Int32, xs (nI (4 * j + 1)).toNatClampNeg = y := ⟨_, rfl⟩
  obtain ⟨y2, ey2⟩ : ∃ y : Int32, xs (nI (4 * j + 2)).toNatClampNeg = y := ⟨_, rfl⟩
  obtain ⟨y3, ey3⟩ : ∃ y : Int32, xs (nI (4 * j + 3)).toNatClampNeg = y := ⟨_, rfl⟩
  obtain ⟨hn, hw6, hk8, hbo, hbs, ht8, hnw, hln⟩ := id hji
  have hbn := pb_lt hbo
  refine lv_aload_n hx hb dL_law_423 rfl (lv_at hl 1 rfl) ?_
  refine lv_aload_n hx hb dL_law_424 rfl (lv_at hl 0 rfl) ?_
  refine lv_iload hx hb dL_law_425 (lv_at hl 4 rfl) ?_
  refine lv_iconst (v := 1) hx hb dL_law_427 (by decide) ?_
  refine lv_iadd hx hb dL_law_428 ?_
  rw [nI_1 (4 * j)]
  refine va_sld hx hb hXs hbl hbA hS (hin 1 (by decide)) dL_law_429 ?_
  rw [ey1]
  refine lv_aload_n hx hb dL_law_430 rfl (lv_at hl 3 rfl) ?_
  have hPc := hP.sub (ws' := wo ca ad co oa t k v b n kd ln w nw ins o) [0, 1, 2, 3, 4, 5, 6, 7, 8] rfl
  have hDc := hD.sub (ws' := wo ca ad co oa t k v b n kd ln w nw ins o) [0, 1, 2, 3, 4, 5, 6, 7, 8] (by decide) rfl
  have hKc := hK.sub (tys' := woT ca co) [0, 1, 2, 3, 4, 5, 6, 7] rfl
  have hFc := va_free (wc := wo ca ad co oa t k v b n kd ln w nw ins o) hD hS hA [0, 1, 2, 3, 4, 5, 6, 7, 8] rfl
  refine va_calli (vx_runSW (As := [.ref (ad 0), .int y1, .ref oa]) (rest := []) ⟨hx, hb, hml, hown, hts⟩ (c_L_frequent l hlt dC dI ca ad co oa _ t k v b n kd ln w nw ins o y1 hn hk8 hw6 hbn) (vx_cwSW 3 hts (gg_S mlL_78 stL_frequent in_WindowMetersLaw kwL_frequent) rfl rfl rfl (by decide +kernel) ⟨Nat.le_of_ble_eq_true rfl, Nat.le_of_ble_eq_true rfl⟩) (lw_preS hKc hPc hDc hS hFc hX [.ref (ad 0), .int y1, .ref oa]) rfl rfl hl.1 rfl (lv_room (Nat.le_of_ble_eq_true rfl)) dL_law_431 ⟨show 17 + 2 * j + 2 ≤ 1052 by omega, show 2756 + 12 * j + 12 ≤ 11011 by omega⟩) hS (fun q _ h => hFc q h) hFc (fun r9 u9 t9 H1 locs ht9 hvm hw9 hB hz1 hk1 hS => ?_)
  obtain ⟨hP1, -, hD1⟩ := hB
  rw [ht9] at hP1
  obtain ⟨i9, o9⟩ := u9
  dsimp only at hw9
  rcases hw9 with ⟨rfl, wi, q9, x9, hwi, hp1, hmk, hq9, hx9, ho9⟩ | ⟨rfl, hg⟩ | ⟨rfl, wi, hwi, hp1, hmk, hall⟩
  · obtain ⟨hP, hD⟩ := va_join (wr := md cm am th t k v n nw w kd ln hd so fq) (w1 := wo ca ad co oa t k v b n kd ln w nw i9 o9) hP hD [0, 1, 2, 3, 4, 5, 6, 7, 8] [9, 10, 11, 12, 13, 14, 15] rfl rfl (by decide) (by decide) hk1 hFc hP1 hD1
    have hP := hP.sub (ws' := lwW ca ad co oa cm am t k v b n kd ln w nw i9 o9 th t k v n nw w kd ln hd so fq) [7, 8, 9, 10, 11, 12, 13, 14, 15, 0, 1, 2, 3, 4, 5, 6] rfl
    have hD := hD.sub (ws' := lwW ca ad co oa cm am t k v b n kd ln w nw i9 o9 th t k v n nw w kd ln hd so fq) [7, 8, 9, 10, 11, 12, 13, 14, 15, 0, 1, 2, 3, 4, 5, 6] (by decide) rfl
    refine lv_istore (lv' := [(5, .int 0), (0, .ref bs), (1, .ref (ad 0)), (2, .ref (am 0)), (3, .ref oa), (4, .int (nI (4 * j)))]) hx hb dL_law_434 hl (by decide) rfl (fun ls hl => ?_)
    refine lv_aload_n hx hb dL_law_436 rfl (lv_at hl 3 rfl) ?_
    refine lv_aload_n hx hb dL_law_437 rfl (lv_at hl 1 rfl) ?_
    refine lv_iload hx hb dL_law_438 (lv_at hl 5 rfl) ?_
    refine lv_iconst (v := 1) hx hb dL_law_440 (by decide) ?_
    refine lv_iadd hx hb dL_law_441 ?_
    rw [nI_1 (4 * j)]
    refine va_sld hx hb hXs hbl hbA hS (hin 1 (by decide)) dL_law_442 ?_
    rw [ey1]
    have hPc := hP.sub (ws' := md cm am th t k v n nw w kd ln hd so fq) [9, 10, 11, 12, 13, 14, 15] rfl
    have hDc := hD.sub (ws' := md cm am th t k v n nw w kd ln hd so fq) [9, 10, 11, 12, 13, 14, 15] (by decide) rfl
    have hKc := hK.sub (tys' := mdT cm) [8, 9, 10, 11, 12, 13] rfl
    have hFc := va_free (wc := md cm am th t k v n nw w kd ln hd so fq) hD hS hA [9, 10, 11, 12, 13, 14, 15] rfl
    refine va_calli (va_runV (As := [.int y1]) (rest := []) ⟨hx, hb, hml, hown, hts⟩ (m_frequent l dC dI cm am _ th t k v n nw w kd ln hd so fq y1 hn hk8 hw6) (cwV 1 hts (gg_V mlL_81 imX1_frequent seX1_frequent in_WindowMetersModel kwX1_frequent) rfl rfl rfl (by decide +kernel) ⟨Nat.le_of_ble_eq_true rfl, Nat.le_of_ble_eq_true rfl⟩) (md_preV hKc hPc hDc [.int y1]) rfl rfl hl.1 rfl (lv_room (Nat.le_of_ble_eq_true rfl)) dL_law_443 ⟨show 17 + 2 * j + 2 + 0 ≤ 1052 by omega, show 2756 + 12 * j + 12 + 0 ≤ 11011 by omega⟩) hS (fun q _ h => hFc q h) hFc (fun rm um t9 H1 locs ht9 hvm hm9 hB hz1 hk1 hS => ?_)
    obtain ⟨hP1, -, hD1⟩ := hB
    rw [ht9] at hP1
    obtain ⟨th9, hd9, so9, fq9⟩ := um
    dsimp only at hm9
    rcases hm9 with ⟨w2, j9, hw2, hp2, rfl, hok, hj9, hmo, hrm⟩ | ⟨g1, rfl⟩ | ⟨w2, hw2, hp2, rfl, hok, hno⟩
    · have hww : w2 = wi := nI_inj (by omega) (by omega) (hp2.symm.trans hp1)
      rw [hww] at hok
      obtain ⟨hP, hD⟩ := va_join (wr := wo ca ad co oa t k v b n kd ln w nw i9 o9) (w1 := md cm am 0 t k v n nw w kd ln hd9 so9 fq9) hP hD [9, 10, 11, 12, 13, 14, 15] [0, 1, 2, 3, 4, 5, 6, 7, 8] rfl rfl (by decide) (by decide) hk1 hFc hP1 hD1
      have hP : va_P (dC, dI) vwCl (lwW ca ad co oa cm am t k v b n kd ln w nw i9 o9 0 t k v n nw w kd ln hd9 so9 fq9) H1 := hP
      have hD : va_D (fun q : Nat => s.heap.size ≤ q) (lwW ca ad co oa cm am t k v b n kd ln w nw i9 o9 0 t k v n nw w kd ln hd9 so9 fq9) := hD
      refine lv_istore (lv' := [(6, .int rm), (5, .int 0), (0, .ref bs), (1, .ref (ad 0)), (2, .ref (am 0)), (3, .ref oa), (4, .int (nI (4 * j)))]) hx hb dL_law_446 hl (by decide) rfl (fun ls hl => ?_)
      refine lv_aload_n hx hb dL_law_448 rfl (lv_at hl 4 rfl) ?_
      have hPc := hP.sub (ws' := md cm am 0 t k v n nw w kd ln hd9 so9 fq9) [9, 10, 11, 12, 13, 14, 15] rfl
      have hDc := hD.sub (ws' := md cm am 0 t k v n nw w kd ln hd9 so9 fq9) [9, 10, 11, 12, 13, 14, 15] (by decide) rfl
      have hKc := hK.sub (tys' := mdT cm) [8, 9, 10, 11, 12, 13] rfl
      refine vp_callSi (W.runV (As := []) (rest := []) ⟨hx, hb, hml, hown, hts⟩ (m_thrown l dC dI cm am _ 0 t k v n nw w kd ln hd9 so9 fq9) (cwV 0 hts (gg_V mlL_60 imX1_thrown seX1_thrown in_WindowMetersModel kwX1_thrown) rfl rfl rfl (by decide +kernel) ⟨Nat.le_of_ble_eq_true rfl, Nat.le_of_ble_eq_true rfl⟩) (md_preV hKc hPc hDc []) rfl rfl hl.1 rfl (lv_room (Nat.le_of_ble_eq_true rfl)) dL_law_449 ⟨show 17 + 2 * j + 2 + 0 ≤ 1052 by omega, show 2756 + 12 * j + 12 + 0 ≤ 11011 by omega⟩) (fun rt hrt => ?_)
      obtain rfl : rt = 0 := hrt
      refine lv_iload hx hb dL_law_452 (lv_at hl 1 rfl) ?_
      refine lv_icmp_eq (tgt := 459) hx hb dL_law_454 (by decide) (fun c_1 => ?_) (fun c_1 => ?_)
      · refine lv_iload hx hb dL_law_459 (lv_at hl 1 rfl) ?_
        refine lv_if_ne (tgt := 476) hx hb dL_law_461 (by decide) (fun c_2 => ?_) (fun c_2 => ?_)
        · first | exact absurd rfl c_2 | exact absurd c_2 (by decide)
        · refine lv_aload_n hx hb dL_law_464 rfl (lv_at hl 5 rfl) ?_
          refine lv_iconst (v := 0) hx hb dL_law_465 (by decide) ?_
          refine va_lald hx hb hK hP 8 7 rfl rfl yo_in dL_law_466 ?_
          refine lv_iload hx hb dL_law_467 (lv_at hl 0 rfl) ?_
          refine lv_i2l (v := rm.toInt64) hx hb dL_law_469 rfl ?_
          refine yo_lcmp (by rw [ho9, yl_get, hx9, hrm, eq_frq hbo hbs (jx_perm hmk (fun j9 hj9 => in_iff hj9 ht8 hnw (hln wi hwi)) hok) hq9 hmo]) hx hb dL_law_470 ?_
          refine lv_if_eq (tgt := 476) hx hb dL_law_471 (by decide) (fun c_3 => ?_) (fun c_3 => ?_)
          · refine lv_goto (tgt := 635) hx hb dL_law_476 (by decide) ?_
            refine W.widen (k := 19 + 2 * j) (n := 2768 + 12 * j) (show 17 + 2 * j + 2 ≤ 19 + 2 * j by omega) (show 2756 + 12 * j + 12 ≤ 2768 + 12 * j by omega) ?_
            exact KK t k v b n kd ln w nw i9 o9 0 hd9 so9 fq9 hji _ _ hP hD hS ls (lv_sub hl [2, 3, 4, 5, 6] rfl)
          · first | exact absurd rfl c_3 | exact absurd c_3 (by decide)
      · first | exact absurd rfl c_1 | exact absurd c_1 (by decide)
    · exact absurd ⟨wi, hwi, hp1⟩ g1
    · have hww : w2 = wi := nI_inj (by omega) (by omega) (hp2.symm.trans hp1)
      rw [hww] at hok
      exact absurd ((eq_frz hbo hbs (jx_perm hmk (fun j9 hj9 => in_iff hj9 ht8 hnw (hln wi hwi)) hok)).mpr hno) (by rw [hq9]; exact fun h => by cases h)
  · obtain ⟨hP, hD⟩ := va_join (wr := md cm am th t k v n nw w kd ln hd so fq) (w1 := wo ca ad co oa t k v b n kd ln w nw i9 o9) hP hD [0, 1, 2, 3, 4, 5, 6, 7, 8] [9, 10, 11, 12, 13, 14, 15] rfl rfl (by decide) (by decide) hk1 hFc hP1 hD1
    have hP := hP.sub (ws' := lwW ca ad co oa cm am t k v b n kd ln w nw i9 o9 th t k v n nw w kd ln hd so fq) [7, 8, 9, 10, 11, 12, 13, 14, 15, 0, 1, 2, 3, 4, 5, 6] rfl
    have hD := hD.sub (ws' := lwW ca ad co oa cm am t k v b n kd ln w nw i9 o9 th t k v n nw w kd ln hd so fq) [7, 8, 9, 10, 11, 12, 13, 14, 15, 0, 1, 2, 3, 4, 5, 6] (by decide) rfl
    refine lv_istore (lv' := [(5, .int 1), (0, .ref bs), (1, .ref (ad 0)), (2, .ref (am 0)), (3, .ref oa), (4, .int (nI (4 * j)))]) hx hb dL_law_434 hl (by decide) rfl (fun ls hl => ?_)
    refine lv_aload_n hx hb dL_law_436 rfl (lv_at hl 3 rfl) ?_
    refine lv_aload_n hx hb dL_law_437 rfl (lv_at hl 1 rfl) ?_
    refine lv_iload hx hb dL_law_438 (lv_at hl 5 rfl) ?_
    refine lv_iconst (v := 1) hx hb dL_law_440 (by decide) ?_
    refine lv_iadd hx hb dL_law_441 ?_
    rw [nI_1 (4 * j)]
    refine va_sld hx hb hXs hbl hbA hS (hin 1 (by decide)) dL_law_442 ?_
    rw [ey1]
    have hPc := hP.sub (ws' := md cm am th t k v n nw w kd ln hd so fq) [9, 10, 11, 12, 13, 14, 15] rfl
    have hDc := hD.sub (ws' := md cm am th t k v n nw w kd ln hd so fq) [9, 10, 11, 12, 13, 14, 15] (by decide) rfl
    have hKc := hK.sub (tys' := mdT cm) [8, 9, 10, 11, 12, 13] rfl
    have hFc := va_free (wc := md cm am th t k v n nw w kd ln hd so fq) hD hS hA [9, 10, 11, 12, 13, 14, 15] rfl
    refine va_calli (va_runV (As := [.int y1]) (rest := []) ⟨hx, hb, hml, hown, hts⟩ (m_frequent l dC dI cm am _ th t k v n nw w kd ln hd so fq y1 hn hk8 hw6) (cwV 1 hts (gg_V mlL_81 imX1_frequent seX1_frequent in_WindowMetersModel kwX1_frequent) rfl rfl rfl (by decide +kernel) ⟨Nat.le_of_ble_eq_true rfl, Nat.le_of_ble_eq_true rfl⟩) (md_preV hKc hPc hDc [.int y1]) rfl rfl hl.1 rfl (lv_room (Nat.le_of_ble_eq_true rfl)) dL_law_443 ⟨show 17 + 2 * j + 2 + 0 ≤ 1052 by omega, show 2756 + 12 * j + 12 + 0 ≤ 11011 by omega⟩) hS (fun q _ h => hFc q h) hFc (fun rm um t9 H1 locs ht9 hvm hm9 hB hz1 hk1 hS => ?_)
    obtain ⟨hP1, -, hD1⟩ := hB
    rw [ht9] at hP1
    obtain ⟨th9, hd9, so9, fq9⟩ := um
    dsimp only at hm9
    rcases hm9 with ⟨w2, j9, hw2, hp2, rfl, hok, hj9, hmo, hrm⟩ | ⟨g1, rfl⟩ | ⟨w2, hw2, hp2, rfl, hok, hno⟩
    · exact absurd ⟨w2, hw2, hp2⟩ hg
    · obtain ⟨hP, hD⟩ := va_join (wr := wo ca ad co oa t k v b n kd ln w nw i9 o9) (w1 := md cm am 1 t k v n nw w kd ln hd9 so9 fq9) hP hD [9, 10, 11, 12, 13, 14, 15] [0, 1, 2, 3, 4, 5, 6, 7, 8] rfl rfl (by decide) (by decide) hk1 hFc hP1 hD1
      have hP : va_P (dC, dI) vwCl (lwW ca ad co oa cm am t k v b n kd ln w nw i9 o9 1 t k v n nw w kd ln hd9 so9 fq9) H1 := hP
      have hD : va_D (fun q : Nat => s.heap.size ≤ q) (lwW ca ad co oa cm am t k v b n kd ln w nw i9 o9 1 t k v n nw w kd ln hd9 so9 fq9) := hD
      refine lv_istore (lv' := [(6, .int rm), (5, .int 1), (0, .ref bs), (1, .ref (ad 0)), (2, .ref (am 0)), (3, .ref oa), (4, .int (nI (4 * j)))]) hx hb dL_law_446 hl (by decide) rfl (fun ls hl => ?_)
      refine lv_aload_n hx hb dL_law_448 rfl (lv_at hl 4 rfl) ?_
      have hPc := hP.sub (ws' := md cm am 1 t k v n nw w kd ln hd9 so9 fq9) [9, 10, 11, 12, 13, 14, 15] rfl
      have hDc := hD.sub (ws' := md cm am 1 t k v n nw w kd ln hd9 so9 fq9) [9, 10, 11, 12, 13, 14, 15] (by decide) rfl
      have hKc := hK.sub (tys' := mdT cm) [8, 9, 10, 11, 12, 13] rfl
      refine vp_callSi (W.runV (As := []) (rest := []) ⟨hx, hb, hml, hown, hts⟩ (m_thrown l dC dI cm am _ 1 t k v n nw w kd ln hd9 so9 fq9) (cwV 0 hts (gg_V mlL_60 imX1_thrown seX1_thrown in_WindowMetersModel kwX1_thrown) rfl rfl rfl (by decide +kernel) ⟨Nat.le_of_ble_eq_true rfl, Nat.le_of_ble_eq_true rfl⟩) (md_preV hKc hPc hDc []) rfl rfl hl.1 rfl (lv_room (Nat.le_of_ble_eq_true rfl)) dL_law_449 ⟨show 17 + 2 * j + 2 + 0 ≤ 1052 by omega, show 2756 + 12 * j + 12 + 0 ≤ 11011 by omega⟩) (fun rt hrt => ?_)
      obtain rfl : rt = 1 := hrt
      refine lv_iload hx hb dL_law_452 (lv_at hl 1 rfl) ?_
      refine lv_icmp_eq (tgt := 459) hx hb dL_law_454 (by decide) (fun c_4 => ?_) (fun c_4 => ?_)
      · refine lv_iload hx hb dL_law_459 (lv_at hl 1 rfl) ?_
        refine lv_if_ne (tgt := 476) hx hb dL_law_461 (by decide) (fun c_5 => ?_) (fun c_5 => ?_)
        · refine lv_goto (tgt := 635) hx hb dL_law_476 (by decide) ?_
          refine W.widen (k := 19 + 2 * j) (n := 2768 + 12 * j) (show 17 + 2 * j + 2 ≤ 19 + 2 * j by omega) (show 2756 + 12 * j + 12 ≤ 2768 + 12 * j by omega) ?_
          exact KK t k v b n kd ln w nw i9 o9 1 hd9 so9 fq9 hji _ _ hP hD hS ls (lv_sub hl [2, 3, 4, 5, 6] rfl)
        · first | exact absurd rfl c_5 | exact absurd c_5 (by decide)
      · first | exact absurd rfl c_4 | exact absurd c_4 (by decide)
    · exact absurd ⟨w2, hw2, hp2⟩ hg
  · obtain ⟨hP, hD⟩ := va_join (wr := md cm am th t k v n nw w kd ln hd so fq) (w1 := wo ca ad co oa t k v b n kd ln w nw i9 o9) hP hD [0, 1, 2, 3, 4, 5, 6, 7, 8] [9, 10, 11, 12, 13, 14, 15] rfl rfl (by decide) (by decide) hk1 hFc hP1 hD1
    have hP := hP.sub (ws' := lwW ca ad co oa cm am t k v b n kd ln w nw i9 o9 th t k v n nw w kd ln hd so fq) [7, 8, 9, 10, 11, 12, 13, 14, 15, 0, 1, 2, 3, 4, 5, 6] rfl
    have hD := hD.sub (ws' := lwW ca ad co oa cm am t k v b n kd ln w nw i9 o9 th t k v n nw w kd ln hd so fq) [7, 8, 9, 10, 11, 12, 13, 14, 15, 0, 1, 2, 3, 4, 5, 6] (by decide) rfl
    refine lv_istore (lv' := [(5, .int 2), (0, .ref bs), (1, .ref (ad 0)), (2, .ref (am 0)), (3, .ref oa), (4, .int (nI (4 * j)))]) hx hb dL_law_434 hl (by decide) rfl (fun ls hl => ?_)
    refine lv_aload_n hx hb dL_law_436 rfl (lv_at hl 3 rfl) ?_
    refine lv_aload_n hx hb dL_law_437 rfl (lv_at hl 1 rfl) ?_
    refine lv_iload hx hb dL_law_438 (lv_at hl 5 rfl) ?_
    refine lv_iconst (v := 1) hx hb dL_law_440 (by decide) ?_
    refine lv_iadd hx hb dL_law_441 ?_
    rw [nI_1 (4 * j)]
    refine va_sld hx hb hXs hbl hbA hS (hin 1 (by decide)) dL_law_442 ?_
    rw [ey1]
    have hPc := hP.sub (ws' := md cm am th t k v n nw w kd ln hd so fq) [9, 10, 11, 12, 13, 14, 15] rfl
    have hDc := hD.sub (ws' := md cm am th t k v n nw w kd ln hd so fq) [9, 10, 11, 12, 13, 14, 15] (by decide) rfl
    have hKc := hK.sub (tys' := mdT cm) [8, 9, 10, 11, 12, 13] rfl
    have hFc := va_free (wc := md cm am th t k v n nw w kd ln hd so fq) hD hS hA [9, 10, 11, 12, 13, 14, 15] rfl
    refine va_calli (va_runV (As := [.int y1]) (rest := []) ⟨hx, hb, hml, hown, hts⟩ (m_frequent l dC dI cm am _ th t k v n nw w kd ln hd so fq y1 hn hk8 hw6) (cwV 1 hts (gg_V mlL_81 imX1_frequent seX1_frequent in_WindowMetersModel kwX1_frequent) rfl rfl rfl (by decide +kernel) ⟨Nat.le_of_ble_eq_true rfl, Nat.le_of_ble_eq_true rfl⟩) (md_preV hKc hPc hDc [.int y1]) rfl rfl hl.1 rfl (lv_room (Nat.le_of_ble_eq_true rfl)) dL_law_443 ⟨show 17 + 2 * j + 2 + 0 ≤ 1052 by omega, show 2756 + 12 * j + 12 + 0 ≤ 11011 by omega⟩) hS (fun q _ h => hFc q h) hFc (fun rm um t9 H1 locs ht9 hvm hm9 hB hz1 hk1 hS => ?_)
    obtain ⟨hP1, -, hD1⟩ := hB
    rw [ht9] at hP1
    obtain ⟨th9, hd9, so9, fq9⟩ := um
    dsimp only at hm9
    rcases hm9 with ⟨w2, j9, hw2, hp2, rfl, hok, hj9, hmo, hrm⟩ | ⟨g1, rfl⟩ | ⟨w2, hw2, hp2, rfl, hok, hno⟩
    · have hww : w2 = wi := nI_inj (by omega) (by omega) (hp2.symm.trans hp1)
      rw [hww] at hok
      exact absurd ((eq_frz hbo hbs (jx_perm hmk (fun j9 hj9 => in_iff hj9 ht8 hnw (hln wi hwi)) hok)).mp hall) (by omega)
    · exact absurd ⟨wi, hwi, hp1⟩ g1
    · obtain ⟨hP, hD⟩ := va_join (wr := wo ca ad co oa t k v b n kd ln w nw i9 o9) (w1 := md cm am 2 t k v n nw w kd ln hd9 so9 fq9) hP hD [9, 10, 11, 12, 13, 14, 15] [0, 1, 2, 3, 4, 5, 6, 7, 8] rfl rfl (by decide) (by decide) hk1 hFc hP1 hD1
      have hP : va_P (dC, dI) vwCl (lwW ca ad co oa cm am t k v b n kd ln w nw i9 o9 2 t k v n nw w kd ln hd9 so9 fq9) H1 := hP
      have hD : va_D (fun q : Nat => s.heap.size ≤ q) (lwW ca ad co oa cm am t k v b n kd ln w nw i9 o9 2 t k v n nw w kd ln hd9 so9 fq9) := hD
      refine lv_istore (lv' := [(6, .int rm), (5, .int 2), (0, .ref bs), (1, .ref (ad 0)), (2, .ref (am 0)), (3, .ref oa), (4, .int (nI (4 * j)))]) hx hb dL_law_446 hl (by decide) rfl (fun ls hl => ?_)
      refine lv_aload_n hx hb dL_law_448 rfl (lv_at hl 4 rfl) ?_
      have hPc := hP.sub (ws' := md cm am 2 t k v n nw w kd ln hd9 so9 fq9) [9, 10, 11, 12, 13, 14, 15] rfl
      have hDc := hD.sub (ws' := md cm am 2 t k v n nw w kd ln hd9 so9 fq9) [9, 10, 11, 12, 13, 14, 15] (by decide) rfl
      have hKc := hK.sub (tys' := mdT cm) [8, 9, 10, 11, 12, 13] rfl
      refine vp_callSi (W.runV (As := []) (rest := []) ⟨hx, hb, hml, hown, hts⟩ (m_thrown l dC dI cm am _ 2 t k v n nw w kd ln hd9 so9 fq9) (cwV 0 hts (gg_V mlL_60 imX1_thrown seX1_thrown in_WindowMetersModel kwX1_thrown) rfl rfl rfl (by decide +kernel) ⟨Nat.le_of_ble_eq_true rfl, Nat.le_of_ble_eq_true rfl⟩) (md_preV hKc hPc hDc []) rfl rfl hl.1 rfl (lv_room (Nat.le_of_ble_eq_true rfl)) dL_law_449 ⟨show 17 + 2 * j + 2 + 0 ≤ 1052 by omega, show 2756 + 12 * j + 12 + 0 ≤ 11011 by omega⟩) (fun rt hrt => ?_)
      obtain rfl : rt = 2 := hrt
      refine lv_iload hx hb dL_law_452 (lv_at hl 1 rfl) ?_
      refine lv_icmp_eq (tgt := 459) hx hb dL_law_454 (by decide) (fun c_6 => ?_) (fun c_6 => ?_)
      · refine lv_iload hx hb dL_law_459 (lv_at hl 1 rfl) ?_
        refine lv_if_ne (tgt := 476) hx hb dL_law_461 (by decide) (fun c_7 => ?_) (fun c_7 => ?_)
        · refine lv_goto (tgt := 635) hx hb dL_law_476 (by decide) ?_
          refine W.widen (k := 19 + 2 * j) (n := 2768 + 12 * j) (show 17 + 2 * j + 2 ≤ 19 + 2 * j by omega) (show 2756 + 12 * j + 12 ≤ 2768 + 12 * j by omega) ?_
          exact KK t k v b n kd ln w nw i9 o9 2 hd9 so9 fq9 hji _ _ hP hD hS ls (lv_sub hl [2, 3, 4, 5, 6] rfl)
        · first | exact absurd rfl c_7 | exact absurd c_7 (by decide)
      · first | exact absurd rfl c_6 | exact absurd c_6 (by decide)

set_option maxRecDepth 100000 in
set_option maxHeartbeats 8000000 in
/-- the law's arm: below -/
theorem a_below {p : Program} {l : Launch} {e : Env} {s : State} {m : MethodId} {below : List Frame} {meth : Method} {c : Code} {dC : Nat → ClassId} {dI : Nat → Nat → Nat} {bs L : Nat} {xs : Nat → Int32} (hlt : l.stackTraces = false) (hL : L ≤ 2048) (C0 : lw_At p s m meth c bs L xs) {ca : Nat → ClassId} {ad : Nat → Nat} {co : ClassId} {oa : Nat} {cm : Nat → ClassId} {am : Nat → Nat} (hK : va_K (dC, dI) vwCl (lwT ca co cm) s) (hX : xwP (fun q : Nat => s.heap.size ≤ q) s) (j : Nat) (hj : 4 * j + 4 ≤ L) (KK : lw_go p l e s m below meth c dC dI bs ca ad co oa cm am (4 * j) 635 (19 + 2 * j) (2768 + 12 * j)) : lw_go p l e s m below meth c dC dI bs ca ad co oa cm am (4 * j) 479 (17 + 2 * j) (2756 + 12 * j) := by
  intro t k v b n kd ln w nw ins o th hd so fq hji H locs hP hD hS ls hl
  obtain ⟨hx, hb, hr, hml, hown0, hts0, hXs, hbl, hlocks, hgv⟩ := C0
  have hown : s.vm.findClass RL = some m.cls := hown0
  have hts : ∀ w ∈ kL_window :: gt, w.before #[Value.ref bs] s = true := fun w h => hts0 w ((List.mem_cons.mp h).elim (fun e => by rw [e]; exact gt_in _ kwL_window) (fun h => gt_in _ h))
  have hA : ∀ q : Nat, s.heap.size ≤ q → (fun q : Nat => s.heap.size ≤ q) q := fun _ h => h
  have hbA : ¬ (fun q : Nat => s.heap.size ≤ q) bs := Nat.not_le.mpr hbl
  have hin : ∀ k : Nat, k < 4 → vp_in (nI (4 * j + k)) L := fun k hk => vp_in_nI (by omega) (by omega)
  obtain ⟨y0, ey0⟩ : ∃ y : Int32, xs (nI (4 * j)).toNatClampNeg = y := ⟨_, rfl⟩
  obtain ⟨y1, ey1⟩ : ∃ y : Int32, xs (nI (4 * j + 1)).toNatClampNeg = y := ⟨_, rfl⟩
  obtain ⟨y2, ey2⟩ : ∃ y : Int32, xs (nI (4 * j + 2)).toNatClampNeg = y := ⟨_, rfl⟩
  obtain ⟨y3, ey3⟩ : ∃ y : Int32, xs (nI (4 * j + 3)).toNatClampNeg = y := ⟨_, rfl⟩
  obtain ⟨hn, hw6, hk8, hbo, hbs, ht8, hnw, hln⟩ := id hji
  have hbn := pb_lt hbo
  refine lv_aload_n hx hb dL_law_479 rfl (lv_at hl 1 rfl) ?_
  refine lv_aload_n hx hb dL_law_480 rfl (lv_at hl 0 rfl) ?_
  refine lv_iload hx hb dL_law_481 (lv_at hl 4 rfl) ?_
  refine lv_iconst (v := 1) hx hb dL_law_483 (by decide) ?_
  refine lv_iadd hx hb dL_law_484 ?_
  rw [nI_1 (4 * j)]
  refine va_sld hx hb hXs hbl hbA hS (hin 1 (by decide)) dL_law_485 ?_
  rw [ey1]
  refine lv_aload_n hx hb dL_law_486 rfl (lv_at hl 0 rfl) ?_
  refine lv_iload hx hb dL_law_487 (lv_at hl 4 rfl) ?_
  refine lv_iconst (v := 2) hx hb dL_law_489 (by decide) ?_
  refine lv_iadd hx hb dL_law_490 ?_
  rw [yl_2 (4 * j)]
  refine va_sld hx hb hXs hbl hbA hS (hin 2 (by decide)) dL_law_491 ?_
  rw [ey2]
  refine lv_aload_n hx hb dL_law_492 rfl (lv_at hl 3 rfl) ?_
  have hPc := hP.sub (ws' := wo ca ad co oa t k v b n kd ln w nw ins o) [0, 1, 2, 3, 4, 5, 6, 7, 8] rfl
  have hDc := hD.sub (ws' := wo ca ad co oa t k v b n kd ln w nw ins o) [0, 1, 2, 3, 4, 5, 6, 7, 8] (by decide) rfl
  have hKc := hK.sub (tys' := woT ca co) [0, 1, 2, 3, 4, 5, 6, 7] rfl
  have hFc := va_free (wc := wo ca ad co oa t k v b n kd ln w nw ins o) hD hS hA [0, 1, 2, 3, 4, 5, 6, 7, 8] rfl
  refine va_calli (vx_runSW (As := [.ref (ad 0), .int y1, .int y2, .ref oa]) (rest := []) ⟨hx, hb, hml, hown, hts⟩ (c_L_below l hlt dC dI ca ad co oa _ t k v b n kd ln w nw ins o y1 y2 hn hk8 hw6 hbn) (vx_cwSW 4 hts (gg_S mlL_82 stL_below in_WindowMetersLaw kwL_below) rfl rfl rfl (by decide +kernel) ⟨Nat.le_of_ble_eq_true rfl, Nat.le_of_ble_eq_true rfl⟩) (lw_preS hKc hPc hDc hS hFc hX [.ref (ad 0), .int y1, .int y2, .ref oa]) rfl rfl hl.1 rfl (lv_room (Nat.le_of_ble_eq_true rfl)) dL_law_493 ⟨show 17 + 2 * j + 1 ≤ 1052 by omega, show 2756 + 12 * j + 6 ≤ 11011 by omega⟩) hS (fun q _ h => hFc q h) hFc (fun r9 u9 t9 H1 locs ht9 hvm hw9 hB hz1 hk1 hS => ?_)
  obtain ⟨hP1, -, hD1⟩ := hB
  rw [ht9] at hP1
  obtain ⟨i9, o9⟩ := u9
  dsimp only at hw9
  rcases hw9 with ⟨rfl, wi, x9, hwi, hp1, hmk, hx9, ho9⟩ | ⟨rfl, hg⟩
  · obtain ⟨hP, hD⟩ := va_join (wr := md cm am th t k v n nw w kd ln hd so fq) (w1 := wo ca ad co oa t k v b n kd ln w nw i9 o9) hP hD [0, 1, 2, 3, 4, 5, 6, 7, 8] [9, 10, 11, 12, 13, 14, 15] rfl rfl (by decide) (by decide) hk1 hFc hP1 hD1
    have hP := hP.sub (ws' := lwW ca ad co oa cm am t k v b n kd ln w nw i9 o9 th t k v n nw w kd ln hd so fq) [7, 8, 9, 10, 11, 12, 13, 14, 15, 0, 1, 2, 3, 4, 5, 6] rfl
    have hD := hD.sub (ws' := lwW ca ad co oa cm am t k v b n kd ln w nw i9 o9 th t k v n nw w kd ln hd so fq) [7, 8, 9, 10, 11, 12, 13, 14, 15, 0, 1, 2, 3, 4, 5, 6] (by decide) rfl
    refine lv_istore (lv' := [(5, .int 0), (0, .ref bs), (1, .ref (ad 0)), (2, .ref (am 0)), (3, .ref oa), (4, .int (nI (4 * j)))]) hx hb dL_law_496 hl (by decide) rfl (fun ls hl => ?_)
    refine lv_aload_n hx hb dL_law_498 rfl (lv_at hl 3 rfl) ?_
    refine lv_aload_n hx hb dL_law_499 rfl (lv_at hl 1 rfl) ?_
    refine lv_iload hx hb dL_law_500 (lv_at hl 5 rfl) ?_
    refine lv_iconst (v := 1) hx hb dL_law_502 (by decide) ?_
    refine lv_iadd hx hb dL_law_503 ?_
    rw [nI_1 (4 * j)]
    refine va_sld hx hb hXs hbl hbA hS (hin 1 (by decide)) dL_law_504 ?_
    rw [ey1]
    refine lv_aload_n hx hb dL_law_505 rfl (lv_at hl 1 rfl) ?_
    refine lv_iload hx hb dL_law_506 (lv_at hl 5 rfl) ?_
    refine lv_iconst (v := 2) hx hb dL_law_508 (by decide) ?_
    refine lv_iadd hx hb dL_law_509 ?_
    rw [yl_2 (4 * j)]
    refine va_sld hx hb hXs hbl hbA hS (hin 2 (by decide)) dL_law_510 ?_
    rw [ey2]
    have hPc := hP.sub (ws' := md cm am th t k v n nw w kd ln hd so fq) [9, 10, 11, 12, 13, 14, 15] rfl
    have hDc := hD.sub (ws' := md cm am th t k v n nw w kd ln hd so fq) [9, 10, 11, 12, 13, 14, 15] (by decide) rfl
    have hKc := hK.sub (tys' := mdT cm) [8, 9, 10, 11, 12, 13] rfl
    have hFc := va_free (wc := md cm am th t k v n nw w kd ln hd so fq) hD hS hA [9, 10, 11, 12, 13, 14, 15] rfl
    refine va_calli (va_runV (As := [.int y1, .int y2]) (rest := []) ⟨hx, hb, hml, hown, hts⟩ (m_below l dC dI cm am _ th t k v n nw w kd ln hd so fq y1 y2 hn hk8 hw6) (cwV 2 hts (gg_V mlL_84 imX1_below seX1_below in_WindowMetersModel kwX1_below) rfl rfl rfl (by decide +kernel) ⟨Nat.le_of_ble_eq_true rfl, Nat.le_of_ble_eq_true rfl⟩) (md_preV hKc hPc hDc [.int y1, .int y2]) rfl rfl hl.1 rfl (lv_room (Nat.le_of_ble_eq_true rfl)) dL_law_511 ⟨show 17 + 2 * j + 1 + 0 ≤ 1052 by omega, show 2756 + 12 * j + 6 + 0 ≤ 11011 by omega⟩) hS (fun q _ h => hFc q h) hFc (fun rm um t9 H1 locs ht9 hvm hm9 hB hz1 hk1 hS => ?_)
    obtain ⟨hP1, -, hD1⟩ := hB
    rw [ht9] at hP1
    obtain ⟨th9, hd9, so9, fq9⟩ := um
    dsimp only at hm9
    rcases hm9 with ⟨w2, hw2, hp2, rfl, hok, hrm⟩ | ⟨g1, rfl⟩
    · have hww : w2 = wi := nI_inj (by omega) (by omega) (hp2.symm.trans hp1)
      rw [hww] at hok
      obtain ⟨hP, hD⟩ := va_join (wr := wo ca ad co oa t k v b n kd ln w nw i9 o9) (w1 := md cm am 0 t k v n nw w kd ln hd9 so9 fq9) hP hD [9, 10, 11, 12, 13, 14, 15] [0, 1, 2, 3, 4, 5, 6, 7, 8] rfl rfl (by decide) (by decide) hk1 hFc hP1 hD1
      have hP : va_P (dC, dI) vwCl (lwW ca ad co oa cm am t k v b n kd ln w nw i9 o9 0 t k v n nw w kd ln hd9 so9 fq9) H1 := hP
      have hD : va_D (fun q : Nat => s.heap.size ≤ q) (lwW ca ad co oa cm am t k v b n kd ln w nw i9 o9 0 t k v n nw w kd ln hd9 so9 fq9) := hD
      refine lv_istore (lv' := [(6, .int rm), (5, .int 0), (0, .ref bs), (1, .ref (ad 0)), (2, .ref (am 0)), (3, .ref oa), (4, .int (nI (4 * j)))]) hx hb dL_law_514 hl (by decide) rfl (fun ls hl => ?_)
      refine lv_aload_n hx hb dL_law_516 rfl (lv_at hl 4 rfl) ?_
      have hPc := hP.sub (ws' := md cm am 0 t k v n nw w kd ln hd9 so9 fq9) [9, 10, 11, 12, 13, 14, 15] rfl
      have hDc := hD.sub (ws' := md cm am 0 t k v n nw w kd ln hd9 so9 fq9) [9, 10, 11, 12, 13, 14, 15] (by decide) rfl
      have hKc := hK.sub (tys' := mdT cm) [8, 9, 10, 11, 12, 13] rfl
      refine vp_callSi (W.runV (As := []) (rest := []) ⟨hx, hb, hml, hown, hts⟩ (m_thrown l dC dI cm am _ 0 t k v n nw w kd ln hd9 so9 fq9) (cwV 0 hts (gg_V mlL_60 imX1_thrown seX1_thrown in_WindowMetersModel kwX1_thrown) rfl rfl rfl (by decide +kernel) ⟨Nat.le_of_ble_eq_true rfl, Nat.le_of_ble_eq_true rfl⟩) (md_preV hKc hPc hDc []) rfl rfl hl.1 rfl (lv_room (Nat.le_of_ble_eq_true rfl)) dL_law_517 ⟨show 17 + 2 * j + 1 + 0 ≤ 1052 by omega, show 2756 + 12 * j + 6 + 0 ≤ 11011 by omega⟩) (fun rt hrt => ?_)
      obtain rfl : rt = 0 := hrt
      refine lv_iload hx hb dL_law_520 (lv_at hl 1 rfl) ?_
      refine lv_icmp_eq (tgt := 527) hx hb dL_law_522 (by decide) (fun c_1 => ?_) (fun c_1 => ?_)
      · refine lv_iload hx hb dL_law_527 (lv_at hl 1 rfl) ?_
        refine lv_if_ne (tgt := 544) hx hb dL_law_529 (by decide) (fun c_2 => ?_) (fun c_2 => ?_)
        · first | exact absurd rfl c_2 | exact absurd c_2 (by decide)
        · refine lv_aload_n hx hb dL_law_532 rfl (lv_at hl 5 rfl) ?_
          refine lv_iconst (v := 0) hx hb dL_law_533 (by decide) ?_
          refine va_lald hx hb hK hP 8 7 rfl rfl yo_in dL_law_534 ?_
          refine lv_iload hx hb dL_law_535 (lv_at hl 0 rfl) ?_
          refine lv_i2l (v := rm.toInt64) hx hb dL_law_537 rfl ?_
          refine yo_lcmp (by rw [ho9, yl_get, hx9, hrm, eq_bel (jx_perm hmk (fun j9 hj9 => in_iff hj9 ht8 hnw (hln wi hwi)) hok) y2]) hx hb dL_law_538 ?_
          refine lv_if_eq (tgt := 544) hx hb dL_law_539 (by decide) (fun c_3 => ?_) (fun c_3 => ?_)
          · refine lv_goto (tgt := 635) hx hb dL_law_544 (by decide) ?_
            refine W.widen (k := 19 + 2 * j) (n := 2768 + 12 * j) (show 17 + 2 * j + 1 ≤ 19 + 2 * j by omega) (show 2756 + 12 * j + 6 ≤ 2768 + 12 * j by omega) ?_
            exact KK t k v b n kd ln w nw i9 o9 0 hd9 so9 fq9 hji _ _ hP hD hS ls (lv_sub hl [2, 3, 4, 5, 6] rfl)
          · first | exact absurd rfl c_3 | exact absurd c_3 (by decide)
      · first | exact absurd rfl c_1 | exact absurd c_1 (by decide)
    · exact absurd ⟨wi, hwi, hp1⟩ g1
  · obtain ⟨hP, hD⟩ := va_join (wr := md cm am th t k v n nw w kd ln hd so fq) (w1 := wo ca ad co oa t k v b n kd ln w nw i9 o9) hP hD [0, 1, 2, 3, 4, 5, 6, 7, 8] [9, 10, 11, 12, 13, 14, 15] rfl rfl (by decide) (by decide) hk1 hFc hP1 hD1
    have hP := hP.sub (ws' := lwW ca ad co oa cm am t k v b n kd ln w nw i9 o9 th t k v n nw w kd ln hd so fq) [7, 8, 9, 10, 11, 12, 13, 14, 15, 0, 1, 2, 3, 4, 5, 6] rfl
    have hD := hD.sub (ws' := lwW ca ad co oa cm am t k v b n kd ln w nw i9 o9 th t k v n nw w kd ln hd so fq) [7, 8, 9, 10, 11, 12, 13, 14, 15, 0, 1, 2, 3, 4, 5, 6] (by decide) rfl
    refine lv_istore (lv' := [(5, .int 1), (0, .ref bs), (1, .ref (ad 0)), (2, .ref (am 0)), (3, .ref oa), (4, .int (nI (4 * j)))]) hx hb dL_law_496 hl (by decide) rfl (fun ls hl => ?_)
    refine lv_aload_n hx hb dL_law_498 rfl (lv_at hl 3 rfl) ?_
    refine lv_aload_n hx hb dL_law_499 rfl (lv_at hl 1 rfl) ?_
    refine lv_iload hx hb dL_law_500 (lv_at hl 5 rfl) ?_
    refine lv_iconst (v := 1) hx hb dL_law_502 (by decide) ?_
    refine lv_iadd hx hb dL_law_503 ?_
    rw [nI_1 (4 * j)]
    refine va_sld hx hb hXs hbl hbA hS (hin 1 (by decide)) dL_law_504 ?_
    rw [ey1]
    refine lv_aload_n hx hb dL_law_505 rfl (lv_at hl 1 rfl) ?_
    refine lv_iload hx hb dL_law_506 (lv_at hl 5 rfl) ?_
    refine lv_iconst (v := 2) hx hb dL_law_508 (by decide) ?_
    refine lv_iadd hx hb dL_law_509 ?_
    rw [yl_2 (4 * j)]
    refine va_sld hx hb hXs hbl hbA hS (hin 2 (by decide)) dL_law_510 ?_
    rw [ey2]
    have hPc := hP.sub (ws' := md cm am th t k v n nw w kd ln hd so fq) [9, 10, 11, 12, 13, 14, 15] rfl
    have hDc := hD.sub (ws' := md cm am th t k v n nw w kd ln hd so fq) [9, 10, 11, 12, 13, 14, 15] (by decide) rfl
    have hKc := hK.sub (tys' := mdT cm) [8, 9, 10, 11, 12, 13] rfl
    have hFc := va_free (wc := md cm am th t k v n nw w kd ln hd so fq) hD hS hA [9, 10, 11, 12, 13, 14, 15] rfl
    refine va_calli (va_runV (As := [.int y1, .int y2]) (rest := []) ⟨hx, hb, hml, hown, hts⟩ (m_below l dC dI cm am _ th t k v n nw w kd ln hd so fq y1 y2 hn hk8 hw6) (cwV 2 hts (gg_V mlL_84 imX1_below seX1_below in_WindowMetersModel kwX1_below) rfl rfl rfl (by decide +kernel) ⟨Nat.le_of_ble_eq_true rfl, Nat.le_of_ble_eq_true rfl⟩) (md_preV hKc hPc hDc [.int y1, .int y2]) rfl rfl hl.1 rfl (lv_room (Nat.le_of_ble_eq_true rfl)) dL_law_511 ⟨show 17 + 2 * j + 1 + 0 ≤ 1052 by omega, show 2756 + 12 * j + 6 + 0 ≤ 11011 by omega⟩) hS (fun q _ h => hFc q h) hFc (fun rm um t9 H1 locs ht9 hvm hm9 hB hz1 hk1 hS => ?_)
    obtain ⟨hP1, -, hD1⟩ := hB
    rw [ht9] at hP1
    obtain ⟨th9, hd9, so9, fq9⟩ := um
    dsimp only at hm9
    rcases hm9 with ⟨w2, hw2, hp2, rfl, hok, hrm⟩ | ⟨g1, rfl⟩
    · exact absurd ⟨w2, hw2, hp2⟩ hg
    · obtain ⟨hP, hD⟩ := va_join (wr := wo ca ad co oa t k v b n kd ln w nw i9 o9) (w1 := md cm am 1 t k v n nw w kd ln hd9 so9 fq9) hP hD [9, 10, 11, 12, 13, 14, 15] [0, 1, 2, 3, 4, 5, 6, 7, 8] rfl rfl (by decide) (by decide) hk1 hFc hP1 hD1
      have hP : va_P (dC, dI) vwCl (lwW ca ad co oa cm am t k v b n kd ln w nw i9 o9 1 t k v n nw w kd ln hd9 so9 fq9) H1 := hP
      have hD : va_D (fun q : Nat => s.heap.size ≤ q) (lwW ca ad co oa cm am t k v b n kd ln w nw i9 o9 1 t k v n nw w kd ln hd9 so9 fq9) := hD
      refine lv_istore (lv' := [(6, .int rm), (5, .int 1), (0, .ref bs), (1, .ref (ad 0)), (2, .ref (am 0)), (3, .ref oa), (4, .int (nI (4 * j)))]) hx hb dL_law_514 hl (by decide) rfl (fun ls hl => ?_)
      refine lv_aload_n hx hb dL_law_516 rfl (lv_at hl 4 rfl) ?_
      have hPc := hP.sub (ws' := md cm am 1 t k v n nw w kd ln hd9 so9 fq9) [9, 10, 11, 12, 13, 14, 15] rfl
      have hDc := hD.sub (ws' := md cm am 1 t k v n nw w kd ln hd9 so9 fq9) [9, 10, 11, 12, 13, 14, 15] (by decide) rfl
      have hKc := hK.sub (tys' := mdT cm) [8, 9, 10, 11, 12, 13] rfl
      refine vp_callSi (W.runV (As := []) (rest := []) ⟨hx, hb, hml, hown, hts⟩ (m_thrown l dC dI cm am _ 1 t k v n nw w kd ln hd9 so9 fq9) (cwV 0 hts (gg_V mlL_60 imX1_thrown seX1_thrown in_WindowMetersModel kwX1_thrown) rfl rfl rfl (by decide +kernel) ⟨Nat.le_of_ble_eq_true rfl, Nat.le_of_ble_eq_true rfl⟩) (md_preV hKc hPc hDc []) rfl rfl hl.1 rfl (lv_room (Nat.le_of_ble_eq_true rfl)) dL_law_517 ⟨show 17 + 2 * j + 1 + 0 ≤ 1052 by omega, show 2756 + 12 * j + 6 + 0 ≤ 11011 by omega⟩) (fun rt hrt => ?_)
      obtain rfl : rt = 1 := hrt
      refine lv_iload hx hb dL_law_520 (lv_at hl 1 rfl) ?_
      refine lv_icmp_eq (tgt := 527) hx hb dL_law_522 (by decide) (fun c_4 => ?_) (fun c_4 => ?_)
      · refine lv_iload hx hb dL_law_527 (lv_at hl 1 rfl) ?_
        refine lv_if_ne (tgt := 544) hx hb dL_law_529 (by decide) (fun c_5 => ?_) (fun c_5 => ?_)
        · refine lv_goto (tgt := 635) hx hb dL_law_544 (by decide) ?_
          refine W.widen (k := 19 + 2 * j) (n := 2768 + 12 * j) (show 17 + 2 * j + 1 ≤ 19 + 2 * j by omega) (show 2756 + 12 * j + 6 ≤ 2768 + 12 * j by omega) ?_
          exact KK t k v b n kd ln w nw i9 o9 1 hd9 so9 fq9 hji _ _ hP hD hS ls (lv_sub hl [2, 3, 4, 5, 6] rfl)
        · first | exact absurd rfl c_5 | exact absurd c_5 (by decide)
      · first | exact absurd rfl c_4 | exact absurd c_4 (by decide)

set_option maxRecDepth 100000 in
set_option maxHeartbeats 8000000 in
/-- the law's arm: has -/
theorem a_has {p : Program} {l : Launch} {e : Env} {s : State} {m : MethodId} {below : List Frame} {meth : Method} {c : Code} {dC : Nat → ClassId} {dI : Nat → Nat → Nat} {bs L : Nat} {xs : Nat → Int32} (hlt : l.stackTraces = false) (hL : L ≤ 2048) (C0 : lw_At p s m meth c bs L xs) {ca : Nat → ClassId} {ad : Nat → Nat} {co : ClassId} {oa : Nat} {cm : Nat → ClassId} {am : Nat → Nat} (hK : va_K (dC, dI) vwCl (lwT ca co cm) s) (hX : xwP (fun q : Nat => s.heap.size ≤ q) s) (j : Nat) (hj : 4 * j + 4 ≤ L) (KK : lw_go p l e s m below meth c dC dI bs ca ad co oa cm am (4 * j) 635 (19 + 2 * j) (2768 + 12 * j)) : lw_go p l e s m below meth c dC dI bs ca ad co oa cm am (4 * j) 547 (17 + 2 * j) (2756 + 12 * j) := by
  intro t k v b n kd ln w nw ins o th hd so fq hji H locs hP hD hS ls hl
  obtain ⟨hx, hb, hr, hml, hown0, hts0, hXs, hbl, hlocks, hgv⟩ := C0
  have hown : s.vm.findClass RL = some m.cls := hown0
  have hts : ∀ w ∈ kL_window :: gt, w.before #[Value.ref bs] s = true := fun w h => hts0 w ((List.mem_cons.mp h).elim (fun e => by rw [e]; exact gt_in _ kwL_window) (fun h => gt_in _ h))
  have hA : ∀ q : Nat, s.heap.size ≤ q → (fun q : Nat => s.heap.size ≤ q) q := fun _ h => h
  have hbA : ¬ (fun q : Nat => s.heap.size ≤ q) bs := Nat.not_le.mpr hbl
  have hin : ∀ k : Nat, k < 4 → vp_in (nI (4 * j + k)) L := fun k hk => vp_in_nI (by omega) (by omega)
  obtain ⟨y0, ey0⟩ : ∃ y : Int32, xs (nI (4 * j)).toNatClampNeg = y := ⟨_, rfl⟩
  obtain ⟨y1, ey1⟩ : ∃ y : Int32, xs (nI (4 * j + 1)).toNatClampNeg = y := ⟨_, rfl⟩
  obtain ⟨y2, ey2⟩ : ∃ y : Int32, xs (nI (4 * j + 2)).toNatClampNeg = y := ⟨_, rfl⟩
  obtain ⟨y3, ey3⟩ : ∃ y : Int32, xs (nI (4 * j + 3)).toNatClampNeg = y := ⟨_, rfl⟩
  obtain ⟨hn, hw6, hk8, hbo, hbs, ht8, hnw, hln⟩ := id hji
  have hbn := pb_lt hbo
  refine lv_aload_n hx hb dL_law_547 rfl (lv_at hl 1 rfl) ?_
  refine lv_aload_n hx hb dL_law_548 rfl (lv_at hl 0 rfl) ?_
  refine lv_iload hx hb dL_law_549 (lv_at hl 4 rfl) ?_
  refine lv_iconst (v := 1) hx hb dL_law_551 (by decide) ?_
  refine lv_iadd hx hb dL_law_552 ?_
  rw [nI_1 (4 * j)]
  refine va_sld hx hb hXs hbl hbA hS (hin 1 (by decide)) dL_law_553 ?_
  rw [ey1]
  refine lv_aload_n hx hb dL_law_554 rfl (lv_at hl 0 rfl) ?_
  refine lv_iload hx hb dL_law_555 (lv_at hl 4 rfl) ?_
  refine lv_iconst (v := 2) hx hb dL_law_557 (by decide) ?_
  refine lv_iadd hx hb dL_law_558 ?_
  rw [yl_2 (4 * j)]
  refine va_sld hx hb hXs hbl hbA hS (hin 2 (by decide)) dL_law_559 ?_
  rw [ey2]
  refine lv_aload_n hx hb dL_law_560 rfl (lv_at hl 3 rfl) ?_
  have hPc := hP.sub (ws' := wo ca ad co oa t k v b n kd ln w nw ins o) [0, 1, 2, 3, 4, 5, 6, 7, 8] rfl
  have hDc := hD.sub (ws' := wo ca ad co oa t k v b n kd ln w nw ins o) [0, 1, 2, 3, 4, 5, 6, 7, 8] (by decide) rfl
  have hKc := hK.sub (tys' := woT ca co) [0, 1, 2, 3, 4, 5, 6, 7] rfl
  have hFc := va_free (wc := wo ca ad co oa t k v b n kd ln w nw ins o) hD hS hA [0, 1, 2, 3, 4, 5, 6, 7, 8] rfl
  refine va_calli (vx_runSW (As := [.ref (ad 0), .int y1, .int y2, .ref oa]) (rest := []) ⟨hx, hb, hml, hown, hts⟩ (c_L_has l hlt dC dI ca ad co oa _ t k v b n kd ln w nw ins o y1 y2 hn hk8 hw6 hbn) (vx_cwSW 4 hts (gg_S mlL_85 stL_has in_WindowMetersLaw kwL_has) rfl rfl rfl (by decide +kernel) ⟨Nat.le_of_ble_eq_true rfl, Nat.le_of_ble_eq_true rfl⟩) (lw_preS hKc hPc hDc hS hFc hX [.ref (ad 0), .int y1, .int y2, .ref oa]) rfl rfl hl.1 rfl (lv_room (Nat.le_of_ble_eq_true rfl)) dL_law_561 ⟨show 17 + 2 * j + 2 ≤ 1052 by omega, show 2756 + 12 * j + 12 ≤ 11011 by omega⟩) hS (fun q _ h => hFc q h) hFc (fun r9 u9 t9 H1 locs ht9 hvm hw9 hB hz1 hk1 hS => ?_)
  obtain ⟨hP1, -, hD1⟩ := hB
  rw [ht9] at hP1
  obtain ⟨i9, o9⟩ := u9
  dsimp only at hw9
  rcases hw9 with ⟨rfl, wi, i8, hwi, hp1, hi8, hpi, hor⟩ | ⟨rfl, hg⟩
  · obtain ⟨hP, hD⟩ := va_join (wr := md cm am th t k v n nw w kd ln hd so fq) (w1 := wo ca ad co oa t k v b n kd ln w nw i9 o9) hP hD [0, 1, 2, 3, 4, 5, 6, 7, 8] [9, 10, 11, 12, 13, 14, 15] rfl rfl (by decide) (by decide) hk1 hFc hP1 hD1
    have hP := hP.sub (ws' := lwW ca ad co oa cm am t k v b n kd ln w nw i9 o9 th t k v n nw w kd ln hd so fq) [7, 8, 9, 10, 11, 12, 13, 14, 15, 0, 1, 2, 3, 4, 5, 6] rfl
    have hD := hD.sub (ws' := lwW ca ad co oa cm am t k v b n kd ln w nw i9 o9 th t k v n nw w kd ln hd so fq) [7, 8, 9, 10, 11, 12, 13, 14, 15, 0, 1, 2, 3, 4, 5, 6] (by decide) rfl
    refine lv_istore (lv' := [(5, .int 0), (0, .ref bs), (1, .ref (ad 0)), (2, .ref (am 0)), (3, .ref oa), (4, .int (nI (4 * j)))]) hx hb dL_law_564 hl (by decide) rfl (fun ls hl => ?_)
    refine lv_aload_n hx hb dL_law_566 rfl (lv_at hl 3 rfl) ?_
    refine lv_aload_n hx hb dL_law_567 rfl (lv_at hl 1 rfl) ?_
    refine lv_iload hx hb dL_law_568 (lv_at hl 5 rfl) ?_
    refine lv_iconst (v := 1) hx hb dL_law_570 (by decide) ?_
    refine lv_iadd hx hb dL_law_571 ?_
    rw [nI_1 (4 * j)]
    refine va_sld hx hb hXs hbl hbA hS (hin 1 (by decide)) dL_law_572 ?_
    rw [ey1]
    refine lv_aload_n hx hb dL_law_573 rfl (lv_at hl 1 rfl) ?_
    refine lv_iload hx hb dL_law_574 (lv_at hl 5 rfl) ?_
    refine lv_iconst (v := 2) hx hb dL_law_576 (by decide) ?_
    refine lv_iadd hx hb dL_law_577 ?_
    rw [yl_2 (4 * j)]
    refine va_sld hx hb hXs hbl hbA hS (hin 2 (by decide)) dL_law_578 ?_
    rw [ey2]
    have hPc := hP.sub (ws' := md cm am th t k v n nw w kd ln hd so fq) [9, 10, 11, 12, 13, 14, 15] rfl
    have hDc := hD.sub (ws' := md cm am th t k v n nw w kd ln hd so fq) [9, 10, 11, 12, 13, 14, 15] (by decide) rfl
    have hKc := hK.sub (tys' := mdT cm) [8, 9, 10, 11, 12, 13] rfl
    have hFc := va_free (wc := md cm am th t k v n nw w kd ln hd so fq) hD hS hA [9, 10, 11, 12, 13, 14, 15] rfl
    refine va_calli (va_runV (As := [.int y1, .int y2]) (rest := []) ⟨hx, hb, hml, hown, hts⟩ (m_has l dC dI cm am _ th t k v n nw w kd ln hd so fq y1 y2 hn hk8 hw6) (cwV 2 hts (gg_V mlL_87 imX1_has seX1_has in_WindowMetersModel kwX1_has) rfl rfl rfl (by decide +kernel) ⟨Nat.le_of_ble_eq_true rfl, Nat.le_of_ble_eq_true rfl⟩) (md_preV hKc hPc hDc [.int y1, .int y2]) rfl rfl hl.1 rfl (lv_room (Nat.le_of_ble_eq_true rfl)) dL_law_579 ⟨show 17 + 2 * j + 2 + 0 ≤ 1052 by omega, show 2756 + 12 * j + 12 + 0 ≤ 11011 by omega⟩) hS (fun q _ h => hFc q h) hFc (fun rm um t9 H1 locs ht9 hvm hm9 hB hz1 hk1 hS => ?_)
    obtain ⟨hP1, -, hD1⟩ := hB
    rw [ht9] at hP1
    rcases hm9 with ⟨w2, i2, hw2, hp2, hi2, hpi2, rfl, hmk2⟩ | ⟨g1, rfl⟩
    · have hww : w2 = wi := nI_inj (by omega) (by omega) (hp2.symm.trans hp1)
      have hii : i2 = i8 := nI_inj (by omega) (by omega) (hpi2.symm.trans hpi)
      rw [hww, hii] at hmk2
      have hiff := in_iff (k := k) (kind := kd wi) hi8 ht8 hnw (hln wi hwi)
      obtain ⟨hP, hD⟩ := va_join (wr := wo ca ad co oa t k v b n kd ln w nw i9 o9) (w1 := md cm am 0 t k v n nw w kd ln hd so fq) hP hD [9, 10, 11, 12, 13, 14, 15] [0, 1, 2, 3, 4, 5, 6, 7, 8] rfl rfl (by decide) (by decide) hk1 hFc hP1 hD1
      have hP : va_P (dC, dI) vwCl (lwW ca ad co oa cm am t k v b n kd ln w nw i9 o9 0 t k v n nw w kd ln hd so fq) H1 := hP
      have hD : va_D (fun q : Nat => s.heap.size ≤ q) (lwW ca ad co oa cm am t k v b n kd ln w nw i9 o9 0 t k v n nw w kd ln hd so fq) := hD
      refine lv_istore (lv' := [(6, .int rm), (5, .int 0), (0, .ref bs), (1, .ref (ad 0)), (2, .ref (am 0)), (3, .ref oa), (4, .int (nI (4 * j)))]) hx hb dL_law_582 hl (by decide) rfl (fun ls hl => ?_)
      refine lv_aload_n hx hb dL_law_584 rfl (lv_at hl 4 rfl) ?_
      have hPc := hP.sub (ws' := md cm am 0 t k v n nw w kd ln hd so fq) [9, 10, 11, 12, 13, 14, 15] rfl
      have hDc := hD.sub (ws' := md cm am 0 t k v n nw w kd ln hd so fq) [9, 10, 11, 12, 13, 14, 15] (by decide) rfl
      have hKc := hK.sub (tys' := mdT cm) [8, 9, 10, 11, 12, 13] rfl
      refine vp_callSi (W.runV (As := []) (rest := []) ⟨hx, hb, hml, hown, hts⟩ (m_thrown l dC dI cm am _ 0 t k v n nw w kd ln hd so fq) (cwV 0 hts (gg_V mlL_60 imX1_thrown seX1_thrown in_WindowMetersModel kwX1_thrown) rfl rfl rfl (by decide +kernel) ⟨Nat.le_of_ble_eq_true rfl, Nat.le_of_ble_eq_true rfl⟩) (md_preV hKc hPc hDc []) rfl rfl hl.1 rfl (lv_room (Nat.le_of_ble_eq_true rfl)) dL_law_585 ⟨show 17 + 2 * j + 2 + 0 ≤ 1052 by omega, show 2756 + 12 * j + 12 + 0 ≤ 11011 by omega⟩) (fun rt hrt => ?_)
      obtain rfl : rt = 0 := hrt
      refine lv_iload hx hb dL_law_588 (lv_at hl 1 rfl) ?_
      refine lv_icmp_eq (tgt := 595) hx hb dL_law_590 (by decide) (fun c_1 => ?_) (fun c_1 => ?_)
      · refine lv_iload hx hb dL_law_595 (lv_at hl 1 rfl) ?_
        refine lv_if_ne (tgt := 619) hx hb dL_law_597 (by decide) (fun c_2 => ?_) (fun c_2 => ?_)
        · first | exact absurd rfl c_2 | exact absurd c_2 (by decide)
        · refine lv_aload_n hx hb dL_law_600 rfl (lv_at hl 5 rfl) ?_
          refine lv_iconst (v := 0) hx hb dL_law_601 (by decide) ?_
          refine va_lald hx hb hK hP 8 7 rfl rfl yo_in dL_law_602 ?_
          refine lv_iload hx hb dL_law_603 (lv_at hl 0 rfl) ?_
          refine lv_if_eq (tgt := 612) hx hb dL_law_605 (by decide) (fun c_3 => ?_) (fun c_3 => ?_)
          · have hout : o9 = vp_updL o 0 0 := hor.elim (fun q => absurd (hiff.mp q.1) (mk_z hmk2 c_3)) (fun q => q.2)
            refine lv_lconst (v := 0) hx hb dL_law_612 (by decide) ?_
            refine yo_lcmp (by rw [hout, yl_get]) hx hb dL_law_613 ?_
            refine lv_if_eq (tgt := 619) hx hb dL_law_614 (by decide) (fun c_4 => ?_) (fun c_4 => ?_)
            · refine lv_goto (tgt := 635) hx hb dL_law_619 (by decide) ?_
              refine W.widen (k := 19 + 2 * j) (n := 2768 + 12 * j) (show 17 + 2 * j + 2 ≤ 19 + 2 * j by omega) (show 2756 + 12 * j + 12 ≤ 2768 + 12 * j by omega) ?_
              exact KK t k v b n kd ln w nw i9 o9 0 hd so fq hji _ _ hP hD hS ls (lv_sub hl [2, 3, 4, 5, 6] rfl)
            · first | exact absurd rfl c_4 | exact absurd c_4 (by decide)
          · have hout : o9 = vp_updL o 0 1 := hor.elim (fun q => q.2) (fun q => absurd (hiff.mpr (mk_nz hmk2 c_3)) q.1)
            refine lv_lconst (v := 1) hx hb dL_law_608 (by decide) ?_
            refine lv_goto (tgt := 613) hx hb dL_law_609 (by decide) ?_
            refine yo_lcmp (by rw [hout, yl_get]) hx hb dL_law_613 ?_
            refine lv_if_eq (tgt := 619) hx hb dL_law_614 (by decide) (fun c_5 => ?_) (fun c_5 => ?_)
            · refine lv_goto (tgt := 635) hx hb dL_law_619 (by decide) ?_
              refine W.widen (k := 19 + 2 * j) (n := 2768 + 12 * j) (show 17 + 2 * j + 2 ≤ 19 + 2 * j by omega) (show 2756 + 12 * j + 12 ≤ 2768 + 12 * j by omega) ?_
              exact KK t k v b n kd ln w nw i9 o9 0 hd so fq hji _ _ hP hD hS ls (lv_sub hl [2, 3, 4, 5, 6] rfl)
            · first | exact absurd rfl c_5 | exact absurd c_5 (by decide)
      · first | exact absurd rfl c_1 | exact absurd c_1 (by decide)
    · exact absurd ⟨⟨wi, hwi, hp1⟩, ⟨i8, hi8, hpi⟩⟩ g1
  · obtain ⟨hP, hD⟩ := va_join (wr := md cm am th t k v n nw w kd ln hd so fq) (w1 := wo ca ad co oa t k v b n kd ln w nw i9 o9) hP hD [0, 1, 2, 3, 4, 5, 6, 7, 8] [9, 10, 11, 12, 13, 14, 15] rfl rfl (by decide) (by decide) hk1 hFc hP1 hD1
    have hP := hP.sub (ws' := lwW ca ad co oa cm am t k v b n kd ln w nw i9 o9 th t k v n nw w kd ln hd so fq) [7, 8, 9, 10, 11, 12, 13, 14, 15, 0, 1, 2, 3, 4, 5, 6] rfl
    have hD := hD.sub (ws' := lwW ca ad co oa cm am t k v b n kd ln w nw i9 o9 th t k v n nw w kd ln hd so fq) [7, 8, 9, 10, 11, 12, 13, 14, 15, 0, 1, 2, 3, 4, 5, 6] (by decide) rfl
    refine lv_istore (lv' := [(5, .int 1), (0, .ref bs), (1, .ref (ad 0)), (2, .ref (am 0)), (3, .ref oa), (4, .int (nI (4 * j)))]) hx hb dL_law_564 hl (by decide) rfl (fun ls hl => ?_)
    refine lv_aload_n hx hb dL_law_566 rfl (lv_at hl 3 rfl) ?_
    refine lv_aload_n hx hb dL_law_567 rfl (lv_at hl 1 rfl) ?_
    refine lv_iload hx hb dL_law_568 (lv_at hl 5 rfl) ?_
    refine lv_iconst (v := 1) hx hb dL_law_570 (by decide) ?_
    refine lv_iadd hx hb dL_law_571 ?_
    rw [nI_1 (4 * j)]
    refine va_sld hx hb hXs hbl hbA hS (hin 1 (by decide)) dL_law_572 ?_
    rw [ey1]
    refine lv_aload_n hx hb dL_law_573 rfl (lv_at hl 1 rfl) ?_
    refine lv_iload hx hb dL_law_574 (lv_at hl 5 rfl) ?_
    refine lv_iconst (v := 2) hx hb dL_law_576 (by decide) ?_
    refine lv_iadd hx hb dL_law_577 ?_
    rw [yl_2 (4 * j)]
    refine va_sld hx hb hXs hbl hbA hS (hin 2 (by decide)) dL_law_578 ?_
    rw [ey2]
    have hPc := hP.sub (ws' := md cm am th t k v n nw w kd ln hd so fq) [9, 10, 11, 12, 13, 14, 15] rfl
    have hDc := hD.sub (ws' := md cm am th t k v n nw w kd ln hd so fq) [9, 10, 11, 12, 13, 14, 15] (by decide) rfl
    have hKc := hK.sub (tys' := mdT cm) [8, 9, 10, 11, 12, 13] rfl
    have hFc := va_free (wc := md cm am th t k v n nw w kd ln hd so fq) hD hS hA [9, 10, 11, 12, 13, 14, 15] rfl
    refine va_calli (va_runV (As := [.int y1, .int y2]) (rest := []) ⟨hx, hb, hml, hown, hts⟩ (m_has l dC dI cm am _ th t k v n nw w kd ln hd so fq y1 y2 hn hk8 hw6) (cwV 2 hts (gg_V mlL_87 imX1_has seX1_has in_WindowMetersModel kwX1_has) rfl rfl rfl (by decide +kernel) ⟨Nat.le_of_ble_eq_true rfl, Nat.le_of_ble_eq_true rfl⟩) (md_preV hKc hPc hDc [.int y1, .int y2]) rfl rfl hl.1 rfl (lv_room (Nat.le_of_ble_eq_true rfl)) dL_law_579 ⟨show 17 + 2 * j + 2 + 0 ≤ 1052 by omega, show 2756 + 12 * j + 12 + 0 ≤ 11011 by omega⟩) hS (fun q _ h => hFc q h) hFc (fun rm um t9 H1 locs ht9 hvm hm9 hB hz1 hk1 hS => ?_)
    obtain ⟨hP1, -, hD1⟩ := hB
    rw [ht9] at hP1
    rcases hm9 with ⟨w2, i2, hw2, hp2, hi2, hpi2, rfl, hmk2⟩ | ⟨g1, rfl⟩
    · exact absurd ⟨⟨w2, hw2, hp2⟩, ⟨i2, hi2, hpi2⟩⟩ hg
    · obtain ⟨hP, hD⟩ := va_join (wr := wo ca ad co oa t k v b n kd ln w nw i9 o9) (w1 := md cm am 1 t k v n nw w kd ln hd so fq) hP hD [9, 10, 11, 12, 13, 14, 15] [0, 1, 2, 3, 4, 5, 6, 7, 8] rfl rfl (by decide) (by decide) hk1 hFc hP1 hD1
      have hP : va_P (dC, dI) vwCl (lwW ca ad co oa cm am t k v b n kd ln w nw i9 o9 1 t k v n nw w kd ln hd so fq) H1 := hP
      have hD : va_D (fun q : Nat => s.heap.size ≤ q) (lwW ca ad co oa cm am t k v b n kd ln w nw i9 o9 1 t k v n nw w kd ln hd so fq) := hD
      refine lv_istore (lv' := [(6, .int rm), (5, .int 1), (0, .ref bs), (1, .ref (ad 0)), (2, .ref (am 0)), (3, .ref oa), (4, .int (nI (4 * j)))]) hx hb dL_law_582 hl (by decide) rfl (fun ls hl => ?_)
      refine lv_aload_n hx hb dL_law_584 rfl (lv_at hl 4 rfl) ?_
      have hPc := hP.sub (ws' := md cm am 1 t k v n nw w kd ln hd so fq) [9, 10, 11, 12, 13, 14, 15] rfl
      have hDc := hD.sub (ws' := md cm am 1 t k v n nw w kd ln hd so fq) [9, 10, 11, 12, 13, 14, 15] (by decide) rfl
      have hKc := hK.sub (tys' := mdT cm) [8, 9, 10, 11, 12, 13] rfl
      refine vp_callSi (W.runV (As := []) (rest := []) ⟨hx, hb, hml, hown, hts⟩ (m_thrown l dC dI cm am _ 1 t k v n nw w kd ln hd so fq) (cwV 0 hts (gg_V mlL_60 imX1_thrown seX1_thrown in_WindowMetersModel kwX1_thrown) rfl rfl rfl (by decide +kernel) ⟨Nat.le_of_ble_eq_true rfl, Nat.le_of_ble_eq_true rfl⟩) (md_preV hKc hPc hDc []) rfl rfl hl.1 rfl (lv_room (Nat.le_of_ble_eq_true rfl)) dL_law_585 ⟨show 17 + 2 * j + 2 + 0 ≤ 1052 by omega, show 2756 + 12 * j + 12 + 0 ≤ 11011 by omega⟩) (fun rt hrt => ?_)
      obtain rfl : rt = 1 := hrt
      refine lv_iload hx hb dL_law_588 (lv_at hl 1 rfl) ?_
      refine lv_icmp_eq (tgt := 595) hx hb dL_law_590 (by decide) (fun c_6 => ?_) (fun c_6 => ?_)
      · refine lv_iload hx hb dL_law_595 (lv_at hl 1 rfl) ?_
        refine lv_if_ne (tgt := 619) hx hb dL_law_597 (by decide) (fun c_7 => ?_) (fun c_7 => ?_)
        · refine lv_goto (tgt := 635) hx hb dL_law_619 (by decide) ?_
          refine W.widen (k := 19 + 2 * j) (n := 2768 + 12 * j) (show 17 + 2 * j + 2 ≤ 19 + 2 * j by omega) (show 2756 + 12 * j + 12 ≤ 2768 + 12 * j by omega) ?_
          exact KK t k v b n kd ln w nw i9 o9 1 hd so fq hji _ _ hP hD hS ls (lv_sub hl [2, 3, 4, 5, 6] rfl)
        · first | exact absurd rfl c_7 | exact absurd c_7 (by decide)
      · first | exact absurd rfl c_6 | exact absurd c_6 (by decide)
