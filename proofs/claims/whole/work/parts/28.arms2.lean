set_option maxRecDepth 100000 in
set_option maxHeartbeats 8000000 in
/-- the law's arm: meter -/
theorem a_meter {p : Program} {l : Launch} {e : Env} {s : State} {m : MethodId} {below : List Frame} {meth : Method} {c : Code} {dC : Nat → ClassId} {dI : Nat → Nat → Nat} {bs L : Nat} {xs : Nat → Int32} (hlt : l.stackTraces = false) (hL : L ≤ 2048) (C0 : lw_At p s m meth c bs L xs) {ca : Nat → ClassId} {ad : Nat → Nat} {co : ClassId} {oa : Nat} {cm : Nat → ClassId} {am : Nat → Nat} (hK : va_K (dC, dI) vwCl (lwT ca co cm) s) (hX : xwP (fun q : Nat => s.heap.size ≤ q) s) (j : Nat) (hj : 4 * j + 4 ≤ L) (KK : lw_go p l e s m below meth c dC dI bs ca ad co oa cm am (4 * j) 635 (19 + 2 * j) (2768 + 12 * j)) : lw_go p l e s m below meth c dC dI bs ca ad co oa cm am (4 * j) 287 (17 + 2 * j) (2756 + 12 * j) := by
  intro t k v b n kd ln w nw ins o th hd so fq hji H locs hP hD hS ls hl
  obtain ⟨hx, hb, hr, hml, hown0, hts0, hXs, hbl, hlocks, hgv⟩ := C0
  have hown : s.vm.findClass RL = some m.cls := hown0
  have hts : ∀ w ∈ kL_window :: gt, w.before #[Value.ref bs] s = true := fun w h => hts0 w ((List.mem_cons.mp h).elim (fun e => by rw [e]; exact gt_in _ kwL_window) (fun h => gt_in _ h))
  have hA : ∀ q : Nat, s.heap.size ≤ q → (fun q : Nat => s.heap.size ≤ q) q := fun _ h => h
  have hbA : ¬ (fun q : Nat => s.heap.size ≤ q) bs := Nat.not_le.mpr hbl
  have hin : ∀ k : Nat, k < 4 → vp_in (nI (4 * j + k)) L := fun k hk => vp_in_nI (by omega) (by omega)
  obtain ⟨y0, ey0⟩ : ∃ y : Int32, xs (nI (4 * j)).toNatClampNeg = y := ⟨_, rfl⟩
  obtain ⟨y1, ey1⟩ : ∃ y : Int32, xs (nI (4 * j + 1)).toNatClampNeg = y := ⟨_, rfl⟩
  obtain ⟨y2, ey2⟩ : ∃ y : Int32, xs (nI (4 * j + 2)).toNatClampNeg = y := ⟨_, rfl⟩
  obtain ⟨y3, ey3⟩ : ∃ y : Int32, xs (nI (4 * j + 3)).toNatClampNeg = y := ⟨_, rfl⟩
  obtain ⟨hn, hw6, hk8, hbo, hbs, ht8, hnw, hln⟩ := id hji
  have hbn := pb_lt hbo
  refine lv_aload_n hx hb dL_law_287 rfl (lv_at hl 1 rfl) ?_
  refine lv_aload_n hx hb dL_law_288 rfl (lv_at hl 0 rfl) ?_
  refine lv_iload hx hb dL_law_289 (lv_at hl 4 rfl) ?_
  refine lv_iconst (v := 1) hx hb dL_law_291 (by decide) ?_
  refine lv_iadd hx hb dL_law_292 ?_
  rw [nI_1 (4 * j)]
  refine va_sld hx hb hXs hbl hbA hS (hin 1 (by decide)) dL_law_293 ?_
  rw [ey1]
  refine lv_aload_n hx hb dL_law_294 rfl (lv_at hl 0 rfl) ?_
  refine lv_iload hx hb dL_law_295 (lv_at hl 4 rfl) ?_
  refine lv_iconst (v := 2) hx hb dL_law_297 (by decide) ?_
  refine lv_iadd hx hb dL_law_298 ?_
  rw [yl_2 (4 * j)]
  refine va_sld hx hb hXs hbl hbA hS (hin 2 (by decide)) dL_law_299 ?_
  rw [ey2]
  refine lv_aload_n hx hb dL_law_300 rfl (lv_at hl 3 rfl) ?_
  have hPc := hP.sub (ws' := wo ca ad co oa t k v b n kd ln w nw ins o) [0, 1, 2, 3, 4, 5, 6, 7, 8] rfl
  have hDc := hD.sub (ws' := wo ca ad co oa t k v b n kd ln w nw ins o) [0, 1, 2, 3, 4, 5, 6, 7, 8] (by decide) rfl
  have hKc := hK.sub (tys' := woT ca co) [0, 1, 2, 3, 4, 5, 6, 7] rfl
  have hFc := va_free (wc := wo ca ad co oa t k v b n kd ln w nw ins o) hD hS hA [0, 1, 2, 3, 4, 5, 6, 7, 8] rfl
  refine va_calli (vx_runSW (As := [.ref (ad 0), .int y1, .int y2, .ref oa]) (rest := []) ⟨hx, hb, hml, hown, hts⟩ (c_L_meter l hlt dC dI ca ad co oa _ t k v b n kd ln w nw ins o y1 y2 hn hk8 hw6 hbn) (vx_cwSW 4 hts (gg_S mlL_72 stL_meter in_WindowMetersLaw kwL_meter) rfl rfl rfl (by decide +kernel) ⟨Nat.le_of_ble_eq_true rfl, Nat.le_of_ble_eq_true rfl⟩) (lw_preS hKc hPc hDc hS hFc hX [.ref (ad 0), .int y1, .int y2, .ref oa]) rfl rfl hl.1 rfl (lv_room (Nat.le_of_ble_eq_true rfl)) dL_law_301 ⟨show 17 + 2 * j + 2 ≤ 1052 by omega, show 2756 + 12 * j + 12 ≤ 11011 by omega⟩) hS (fun q _ h => hFc q h) hFc (fun r9 u9 t9 H1 locs ht9 hvm hw9 hB hz1 hk1 hS => ?_)
  obtain ⟨hP1, -, hD1⟩ := hB
  rw [ht9] at hP1
  obtain ⟨i9, o9⟩ := u9
  dsimp only at hw9
  rcases hw9 with ⟨rfl, wi, x9, hwi, hp1, h3, hmk, hx9, ho9⟩ | ⟨rfl, hg, hu⟩ | ⟨rfl, hg, hg3, hu⟩
  · obtain ⟨hP, hD⟩ := va_join (wr := md cm am th t k v n nw w kd ln hd so fq) (w1 := wo ca ad co oa t k v b n kd ln w nw i9 o9) hP hD [0, 1, 2, 3, 4, 5, 6, 7, 8] [9, 10, 11, 12, 13, 14, 15] rfl rfl (by decide) (by decide) hk1 hFc hP1 hD1
    have hP := hP.sub (ws' := lwW ca ad co oa cm am t k v b n kd ln w nw i9 o9 th t k v n nw w kd ln hd so fq) [7, 8, 9, 10, 11, 12, 13, 14, 15, 0, 1, 2, 3, 4, 5, 6] rfl
    have hD := hD.sub (ws' := lwW ca ad co oa cm am t k v b n kd ln w nw i9 o9 th t k v n nw w kd ln hd so fq) [7, 8, 9, 10, 11, 12, 13, 14, 15, 0, 1, 2, 3, 4, 5, 6] (by decide) rfl
    refine lv_istore (lv' := [(5, .int 0), (0, .ref bs), (1, .ref (ad 0)), (2, .ref (am 0)), (3, .ref oa), (4, .int (nI (4 * j)))]) hx hb dL_law_304 hl (by decide) rfl (fun ls hl => ?_)
    refine lv_aload_n hx hb dL_law_306 rfl (lv_at hl 3 rfl) ?_
    refine lv_aload_n hx hb dL_law_307 rfl (lv_at hl 1 rfl) ?_
    refine lv_iload hx hb dL_law_308 (lv_at hl 5 rfl) ?_
    refine lv_iconst (v := 1) hx hb dL_law_310 (by decide) ?_
    refine lv_iadd hx hb dL_law_311 ?_
    rw [nI_1 (4 * j)]
    refine va_sld hx hb hXs hbl hbA hS (hin 1 (by decide)) dL_law_312 ?_
    rw [ey1]
    refine lv_aload_n hx hb dL_law_313 rfl (lv_at hl 1 rfl) ?_
    refine lv_iload hx hb dL_law_314 (lv_at hl 5 rfl) ?_
    refine lv_iconst (v := 2) hx hb dL_law_316 (by decide) ?_
    refine lv_iadd hx hb dL_law_317 ?_
    rw [yl_2 (4 * j)]
    refine va_sld hx hb hXs hbl hbA hS (hin 2 (by decide)) dL_law_318 ?_
    rw [ey2]
    have hPc := hP.sub (ws' := md cm am th t k v n nw w kd ln hd so fq) [9, 10, 11, 12, 13, 14, 15] rfl
    have hDc := hD.sub (ws' := md cm am th t k v n nw w kd ln hd so fq) [9, 10, 11, 12, 13, 14, 15] (by decide) rfl
    have hKc := hK.sub (tys' := mdT cm) [8, 9, 10, 11, 12, 13] rfl
    have hFc := va_free (wc := md cm am th t k v n nw w kd ln hd so fq) hD hS hA [9, 10, 11, 12, 13, 14, 15] rfl
    refine va_calli (va_runV (As := [.int y1, .int y2]) (rest := []) ⟨hx, hb, hml, hown, hts⟩ (m_meter l dC dI cm am _ th t k v n nw w kd ln hd so fq y1 y2 hn hk8 hw6) (cwV 2 hts (gg_V mlL_74 imX1_meter seX1_meter in_WindowMetersModel kwX1_meter) rfl rfl rfl (by decide +kernel) ⟨Nat.le_of_ble_eq_true rfl, Nat.le_of_ble_eq_true rfl⟩) (md_preV hKc hPc hDc [.int y1, .int y2]) rfl rfl hl.1 rfl (lv_room (Nat.le_of_ble_eq_true rfl)) dL_law_319 ⟨show 17 + 2 * j + 2 + 0 ≤ 1052 by omega, show 2756 + 12 * j + 12 + 0 ≤ 11011 by omega⟩) hS (fun q _ h => hFc q h) hFc (fun rm um t9 H1 locs ht9 hvm hm9 hB hz1 hk1 hS => ?_)
    obtain ⟨hP1, -, hD1⟩ := hB
    rw [ht9] at hP1
    obtain ⟨th9, hd9, so9, fq9⟩ := um
    dsimp only at hm9
    rcases hm9 with ⟨w2, hw2, hp2, g3, rfl, hok, hrm⟩ | ⟨g1, rfl⟩ | ⟨g1, g3, rfl⟩
    · have hww : w2 = wi := nI_inj (by omega) (by omega) (hp2.symm.trans hp1)
      rw [hww] at hok
      obtain ⟨hP, hD⟩ := va_join (wr := wo ca ad co oa t k v b n kd ln w nw i9 o9) (w1 := md cm am 0 t k v n nw w kd ln hd9 so9 fq9) hP hD [9, 10, 11, 12, 13, 14, 15] [0, 1, 2, 3, 4, 5, 6, 7, 8] rfl rfl (by decide) (by decide) hk1 hFc hP1 hD1
      have hP : va_P (dC, dI) vwCl (lwW ca ad co oa cm am t k v b n kd ln w nw i9 o9 0 t k v n nw w kd ln hd9 so9 fq9) H1 := hP
      have hD : va_D (fun q : Nat => s.heap.size ≤ q) (lwW ca ad co oa cm am t k v b n kd ln w nw i9 o9 0 t k v n nw w kd ln hd9 so9 fq9) := hD
      refine lv_istore (lv' := [(6, .int rm), (5, .int 0), (0, .ref bs), (1, .ref (ad 0)), (2, .ref (am 0)), (3, .ref oa), (4, .int (nI (4 * j)))]) hx hb dL_law_322 hl (by decide) rfl (fun ls hl => ?_)
      refine lv_aload_n hx hb dL_law_324 rfl (lv_at hl 4 rfl) ?_
      have hPc := hP.sub (ws' := md cm am 0 t k v n nw w kd ln hd9 so9 fq9) [9, 10, 11, 12, 13, 14, 15] rfl
      have hDc := hD.sub (ws' := md cm am 0 t k v n nw w kd ln hd9 so9 fq9) [9, 10, 11, 12, 13, 14, 15] (by decide) rfl
      have hKc := hK.sub (tys' := mdT cm) [8, 9, 10, 11, 12, 13] rfl
      refine vp_callSi (W.runV (As := []) (rest := []) ⟨hx, hb, hml, hown, hts⟩ (m_thrown l dC dI cm am _ 0 t k v n nw w kd ln hd9 so9 fq9) (cwV 0 hts (gg_V mlL_60 imX1_thrown seX1_thrown in_WindowMetersModel kwX1_thrown) rfl rfl rfl (by decide +kernel) ⟨Nat.le_of_ble_eq_true rfl, Nat.le_of_ble_eq_true rfl⟩) (md_preV hKc hPc hDc []) rfl rfl hl.1 rfl (lv_room (Nat.le_of_ble_eq_true rfl)) dL_law_325 ⟨show 17 + 2 * j + 2 + 0 ≤ 1052 by omega, show 2756 + 12 * j + 12 + 0 ≤ 11011 by omega⟩) (fun rt hrt => ?_)
      obtain rfl : rt = 0 := hrt
      refine lv_iload hx hb dL_law_328 (lv_at hl 1 rfl) ?_
      refine lv_icmp_eq (tgt := 335) hx hb dL_law_330 (by decide) (fun c_1 => ?_) (fun c_1 => ?_)
      · refine lv_iload hx hb dL_law_335 (lv_at hl 1 rfl) ?_
        refine lv_if_ne (tgt := 352) hx hb dL_law_337 (by decide) (fun c_2 => ?_) (fun c_2 => ?_)
        · first | exact absurd rfl c_2 | exact absurd c_2 (by decide)
        · refine lv_aload_n hx hb dL_law_340 rfl (lv_at hl 5 rfl) ?_
          refine lv_iconst (v := 0) hx hb dL_law_341 (by decide) ?_
          refine va_lald hx hb hK hP 8 7 rfl rfl yo_in dL_law_342 ?_
          refine lv_iload hx hb dL_law_343 (lv_at hl 0 rfl) ?_
          refine lv_i2l (v := rm.toInt64) hx hb dL_law_345 rfl ?_
          refine yo_lcmp (by rw [ho9, yl_get, hx9, hrm, eq_met hbo hbs (jx_perm hmk (fun j9 hj9 => in_iff hj9 ht8 hnw (hln wi hwi)) hok) y2]) hx hb dL_law_346 ?_
          refine lv_if_eq (tgt := 352) hx hb dL_law_347 (by decide) (fun c_3 => ?_) (fun c_3 => ?_)
          · refine lv_goto (tgt := 635) hx hb dL_law_352 (by decide) ?_
            refine W.widen (k := 19 + 2 * j) (n := 2768 + 12 * j) (show 17 + 2 * j + 2 ≤ 19 + 2 * j by omega) (show 2756 + 12 * j + 12 ≤ 2768 + 12 * j by omega) ?_
            exact KK t k v b n kd ln w nw i9 o9 0 hd9 so9 fq9 hji _ _ hP hD hS ls (lv_sub hl [2, 3, 4, 5, 6] rfl)
          · first | exact absurd rfl c_3 | exact absurd c_3 (by decide)
      · first | exact absurd rfl c_1 | exact absurd c_1 (by decide)
    · exact absurd ⟨wi, hwi, hp1⟩ g1
    · exact absurd h3 g3
  · obtain ⟨hP, hD⟩ := va_join (wr := md cm am th t k v n nw w kd ln hd so fq) (w1 := wo ca ad co oa t k v b n kd ln w nw i9 o9) hP hD [0, 1, 2, 3, 4, 5, 6, 7, 8] [9, 10, 11, 12, 13, 14, 15] rfl rfl (by decide) (by decide) hk1 hFc hP1 hD1
    have hP := hP.sub (ws' := lwW ca ad co oa cm am t k v b n kd ln w nw i9 o9 th t k v n nw w kd ln hd so fq) [7, 8, 9, 10, 11, 12, 13, 14, 15, 0, 1, 2, 3, 4, 5, 6] rfl
    have hD := hD.sub (ws' := lwW ca ad co oa cm am t k v b n kd ln w nw i9 o9 th t k v n nw w kd ln hd so fq) [7, 8, 9, 10, 11, 12, 13, 14, 15, 0, 1, 2, 3, 4, 5, 6] (by decide) rfl
    refine lv_istore (lv' := [(5, .int 1), (0, .ref bs), (1, .ref (ad 0)), (2, .ref (am 0)), (3, .ref oa), (4, .int (nI (4 * j)))]) hx hb dL_law_304 hl (by decide) rfl (fun ls hl => ?_)
    refine lv_aload_n hx hb dL_law_306 rfl (lv_at hl 3 rfl) ?_
    refine lv_aload_n hx hb dL_law_307 rfl (lv_at hl 1 rfl) ?_
    refine lv_iload hx hb dL_law_308 (lv_at hl 5 rfl) ?_
    refine lv_iconst (v := 1) hx hb dL_law_310 (by decide) ?_
    refine lv_iadd hx hb dL_law_311 ?_
    rw [nI_1 (4 * j)]
    refine va_sld hx hb hXs hbl hbA hS (hin 1 (by decide)) dL_law_312 ?_
    rw [ey1]
    refine lv_aload_n hx hb dL_law_313 rfl (lv_at hl 1 rfl) ?_
    refine lv_iload hx hb dL_law_314 (lv_at hl 5 rfl) ?_
    refine lv_iconst (v := 2) hx hb dL_law_316 (by decide) ?_
    refine lv_iadd hx hb dL_law_317 ?_
    rw [yl_2 (4 * j)]
    refine va_sld hx hb hXs hbl hbA hS (hin 2 (by decide)) dL_law_318 ?_
    rw [ey2]
    have hPc := hP.sub (ws' := md cm am th t k v n nw w kd ln hd so fq) [9, 10, 11, 12, 13, 14, 15] rfl
    have hDc := hD.sub (ws' := md cm am th t k v n nw w kd ln hd so fq) [9, 10, 11, 12, 13, 14, 15] (by decide) rfl
    have hKc := hK.sub (tys' := mdT cm) [8, 9, 10, 11, 12, 13] rfl
    have hFc := va_free (wc := md cm am th t k v n nw w kd ln hd so fq) hD hS hA [9, 10, 11, 12, 13, 14, 15] rfl
    refine va_calli (va_runV (As := [.int y1, .int y2]) (rest := []) ⟨hx, hb, hml, hown, hts⟩ (m_meter l dC dI cm am _ th t k v n nw w kd ln hd so fq y1 y2 hn hk8 hw6) (cwV 2 hts (gg_V mlL_74 imX1_meter seX1_meter in_WindowMetersModel kwX1_meter) rfl rfl rfl (by decide +kernel) ⟨Nat.le_of_ble_eq_true rfl, Nat.le_of_ble_eq_true rfl⟩) (md_preV hKc hPc hDc [.int y1, .int y2]) rfl rfl hl.1 rfl (lv_room (Nat.le_of_ble_eq_true rfl)) dL_law_319 ⟨show 17 + 2 * j + 2 + 0 ≤ 1052 by omega, show 2756 + 12 * j + 12 + 0 ≤ 11011 by omega⟩) hS (fun q _ h => hFc q h) hFc (fun rm um t9 H1 locs ht9 hvm hm9 hB hz1 hk1 hS => ?_)
    obtain ⟨hP1, -, hD1⟩ := hB
    rw [ht9] at hP1
    obtain ⟨th9, hd9, so9, fq9⟩ := um
    dsimp only at hm9
    rcases hm9 with ⟨w2, hw2, hp2, g3, rfl, hok, hrm⟩ | ⟨g1, rfl⟩ | ⟨g1, g3, rfl⟩
    · exact absurd ⟨w2, hw2, hp2⟩ hg
    · obtain ⟨hP, hD⟩ := va_join (wr := wo ca ad co oa t k v b n kd ln w nw i9 o9) (w1 := md cm am 1 t k v n nw w kd ln hd9 so9 fq9) hP hD [9, 10, 11, 12, 13, 14, 15] [0, 1, 2, 3, 4, 5, 6, 7, 8] rfl rfl (by decide) (by decide) hk1 hFc hP1 hD1
      have hP : va_P (dC, dI) vwCl (lwW ca ad co oa cm am t k v b n kd ln w nw i9 o9 1 t k v n nw w kd ln hd9 so9 fq9) H1 := hP
      have hD : va_D (fun q : Nat => s.heap.size ≤ q) (lwW ca ad co oa cm am t k v b n kd ln w nw i9 o9 1 t k v n nw w kd ln hd9 so9 fq9) := hD
      refine lv_istore (lv' := [(6, .int rm), (5, .int 1), (0, .ref bs), (1, .ref (ad 0)), (2, .ref (am 0)), (3, .ref oa), (4, .int (nI (4 * j)))]) hx hb dL_law_322 hl (by decide) rfl (fun ls hl => ?_)
      refine lv_aload_n hx hb dL_law_324 rfl (lv_at hl 4 rfl) ?_
      have hPc := hP.sub (ws' := md cm am 1 t k v n nw w kd ln hd9 so9 fq9) [9, 10, 11, 12, 13, 14, 15] rfl
      have hDc := hD.sub (ws' := md cm am 1 t k v n nw w kd ln hd9 so9 fq9) [9, 10, 11, 12, 13, 14, 15] (by decide) rfl
      have hKc := hK.sub (tys' := mdT cm) [8, 9, 10, 11, 12, 13] rfl
      refine vp_callSi (W.runV (As := []) (rest := []) ⟨hx, hb, hml, hown, hts⟩ (m_thrown l dC dI cm am _ 1 t k v n nw w kd ln hd9 so9 fq9) (cwV 0 hts (gg_V mlL_60 imX1_thrown seX1_thrown in_WindowMetersModel kwX1_thrown) rfl rfl rfl (by decide +kernel) ⟨Nat.le_of_ble_eq_true rfl, Nat.le_of_ble_eq_true rfl⟩) (md_preV hKc hPc hDc []) rfl rfl hl.1 rfl (lv_room (Nat.le_of_ble_eq_true rfl)) dL_law_325 ⟨show 17 + 2 * j + 2 + 0 ≤ 1052 by omega, show 2756 + 12 * j + 12 + 0 ≤ 11011 by omega⟩) (fun rt hrt => ?_)
      obtain rfl : rt = 1 := hrt
      refine lv_iload hx hb dL_law_328 (lv_at hl 1 rfl) ?_
      refine lv_icmp_eq (tgt := 335) hx hb dL_law_330 (by decide) (fun c_4 => ?_) (fun c_4 => ?_)
      · refine lv_iload hx hb dL_law_335 (lv_at hl 1 rfl) ?_
        refine lv_if_ne (tgt := 352) hx hb dL_law_337 (by decide) (fun c_5 => ?_) (fun c_5 => ?_)
        · refine lv_goto (tgt := 635) hx hb dL_law_352 (by decide) ?_
          refine W.widen (k := 19 + 2 * j) (n := 2768 + 12 * j) (show 17 + 2 * j + 2 ≤ 19 + 2 * j by omega) (show 2756 + 12 * j + 12 ≤ 2768 + 12 * j by omega) ?_
          exact KK t k v b n kd ln w nw i9 o9 1 hd9 so9 fq9 hji _ _ hP hD hS ls (lv_sub hl [2, 3, 4, 5, 6] rfl)
        · first | exact absurd rfl c_5 | exact absurd c_5 (by decide)
      · first | exact absurd rfl c_4 | exact absurd c_4 (by decide)
    · exact absurd g1 hg
  · obtain ⟨hP, hD⟩ := va_join (wr := md cm am th t k v n nw w kd ln hd so fq) (w1 := wo ca ad co oa t k v b n kd ln w nw i9 o9) hP hD [0, 1, 2, 3, 4, 5, 6, 7, 8] [9, 10, 11, 12, 13, 14, 15] rfl rfl (by decide) (by decide) hk1 hFc hP1 hD1
    have hP := hP.sub (ws' := lwW ca ad co oa cm am t k v b n kd ln w nw i9 o9 th t k v n nw w kd ln hd so fq) [7, 8, 9, 10, 11, 12, 13, 14, 15, 0, 1, 2, 3, 4, 5, 6] rfl
    have hD := hD.sub (ws' := lwW ca ad co oa cm am t k v b n kd ln w nw i9 o9 th t k v n nw w kd ln hd so fq) [7, 8, 9, 10, 11, 12, 13, 14, 15, 0, 1, 2, 3, 4, 5, 6] (by decide) rfl
    refine lv_istore (lv' := [(5, .int 2), (0, .ref bs), (1, .ref (ad 0)), (2, .ref (am 0)), (3, .ref oa), (4, .int (nI (4 * j)))]) hx hb dL_law_304 hl (by decide) rfl (fun ls hl => ?_)
    refine lv_aload_n hx hb dL_law_306 rfl (lv_at hl 3 rfl) ?_
    refine lv_aload_n hx hb dL_law_307 rfl (lv_at hl 1 rfl) ?_
    refine lv_iload hx hb dL_law_308 (lv_at hl 5 rfl) ?_
    refine lv_iconst (v := 1) hx hb dL_law_310 (by decide) ?_
    refine lv_iadd hx hb dL_law_311 ?_
    rw [nI_1 (4 * j)]
    refine va_sld hx hb hXs hbl hbA hS (hin 1 (by decide)) dL_law_312 ?_
    rw [ey1]
    refine lv_aload_n hx hb dL_law_313 rfl (lv_at hl 1 rfl) ?_
    refine lv_iload hx hb dL_law_314 (lv_at hl 5 rfl) ?_
    refine lv_iconst (v := 2) hx hb dL_law_316 (by decide) ?_
    refine lv_iadd hx hb dL_law_317 ?_
    rw [yl_2 (4 * j)]
    refine va_sld hx hb hXs hbl hbA hS (hin 2 (by decide)) dL_law_318 ?_
    rw [ey2]
    have hPc := hP.sub (ws' := md cm am th t k v n nw w kd ln hd so fq) [9, 10, 11, 12, 13, 14, 15] rfl
    have hDc := hD.sub (ws' := md cm am th t k v n nw w kd ln hd so fq) [9, 10, 11, 12, 13, 14, 15] (by decide) rfl
    have hKc := hK.sub (tys' := mdT cm) [8, 9, 10, 11, 12, 13] rfl
    have hFc := va_free (wc := md cm am th t k v n nw w kd ln hd so fq) hD hS hA [9, 10, 11, 12, 13, 14, 15] rfl
    refine va_calli (va_runV (As := [.int y1, .int y2]) (rest := []) ⟨hx, hb, hml, hown, hts⟩ (m_meter l dC dI cm am _ th t k v n nw w kd ln hd so fq y1 y2 hn hk8 hw6) (cwV 2 hts (gg_V mlL_74 imX1_meter seX1_meter in_WindowMetersModel kwX1_meter) rfl rfl rfl (by decide +kernel) ⟨Nat.le_of_ble_eq_true rfl, Nat.le_of_ble_eq_true rfl⟩) (md_preV hKc hPc hDc [.int y1, .int y2]) rfl rfl hl.1 rfl (lv_room (Nat.le_of_ble_eq_true rfl)) dL_law_319 ⟨show 17 + 2 * j + 2 + 0 ≤ 1052 by omega, show 2756 + 12 * j + 12 + 0 ≤ 11011 by omega⟩) hS (fun q _ h => hFc q h) hFc (fun rm um t9 H1 locs ht9 hvm hm9 hB hz1 hk1 hS => ?_)
    obtain ⟨hP1, -, hD1⟩ := hB
    rw [ht9] at hP1
    obtain ⟨th9, hd9, so9, fq9⟩ := um
    dsimp only at hm9
    rcases hm9 with ⟨w2, hw2, hp2, g3, rfl, hok, hrm⟩ | ⟨g1, rfl⟩ | ⟨g1, g3, rfl⟩
    · exact absurd g3 hg3
    · exact absurd hg g1
    · obtain ⟨hP, hD⟩ := va_join (wr := wo ca ad co oa t k v b n kd ln w nw i9 o9) (w1 := md cm am 2 t k v n nw w kd ln hd9 so9 fq9) hP hD [9, 10, 11, 12, 13, 14, 15] [0, 1, 2, 3, 4, 5, 6, 7, 8] rfl rfl (by decide) (by decide) hk1 hFc hP1 hD1
      have hP : va_P (dC, dI) vwCl (lwW ca ad co oa cm am t k v b n kd ln w nw i9 o9 2 t k v n nw w kd ln hd9 so9 fq9) H1 := hP
      have hD : va_D (fun q : Nat => s.heap.size ≤ q) (lwW ca ad co oa cm am t k v b n kd ln w nw i9 o9 2 t k v n nw w kd ln hd9 so9 fq9) := hD
      refine lv_istore (lv' := [(6, .int rm), (5, .int 2), (0, .ref bs), (1, .ref (ad 0)), (2, .ref (am 0)), (3, .ref oa), (4, .int (nI (4 * j)))]) hx hb dL_law_322 hl (by decide) rfl (fun ls hl => ?_)
      refine lv_aload_n hx hb dL_law_324 rfl (lv_at hl 4 rfl) ?_
      have hPc := hP.sub (ws' := md cm am 2 t k v n nw w kd ln hd9 so9 fq9) [9, 10, 11, 12, 13, 14, 15] rfl
      have hDc := hD.sub (ws' := md cm am 2 t k v n nw w kd ln hd9 so9 fq9) [9, 10, 11, 12, 13, 14, 15] (by decide) rfl
      have hKc := hK.sub (tys' := mdT cm) [8, 9, 10, 11, 12, 13] rfl
      refine vp_callSi (W.runV (As := []) (rest := []) ⟨hx, hb, hml, hown, hts⟩ (m_thrown l dC dI cm am _ 2 t k v n nw w kd ln hd9 so9 fq9) (cwV 0 hts (gg_V mlL_60 imX1_thrown seX1_thrown in_WindowMetersModel kwX1_thrown) rfl rfl rfl (by decide +kernel) ⟨Nat.le_of_ble_eq_true rfl, Nat.le_of_ble_eq_true rfl⟩) (md_preV hKc hPc hDc []) rfl rfl hl.1 rfl (lv_room (Nat.le_of_ble_eq_true rfl)) dL_law_325 ⟨show 17 + 2 * j + 2 + 0 ≤ 1052 by omega, show 2756 + 12 * j + 12 + 0 ≤ 11011 by omega⟩) (fun rt hrt => ?_)
      obtain rfl : rt = 2 := hrt
      refine lv_iload hx hb dL_law_328 (lv_at hl 1 rfl) ?_
      refine lv_icmp_eq (tgt := 335) hx hb dL_law_330 (by decide) (fun c_6 => ?_) (fun c_6 => ?_)
      · refine lv_iload hx hb dL_law_335 (lv_at hl 1 rfl) ?_
        refine lv_if_ne (tgt := 352) hx hb dL_law_337 (by decide) (fun c_7 => ?_) (fun c_7 => ?_)
        · refine lv_goto (tgt := 635) hx hb dL_law_352 (by decide) ?_
          refine W.widen (k := 19 + 2 * j) (n := 2768 + 12 * j) (show 17 + 2 * j + 2 ≤ 19 + 2 * j by omega) (show 2756 + 12 * j + 12 ≤ 2768 + 12 * j by omega) ?_
          exact KK t k v b n kd ln w nw i9 o9 2 hd9 so9 fq9 hji _ _ hP hD hS ls (lv_sub hl [2, 3, 4, 5, 6] rfl)
        · first | exact absurd rfl c_7 | exact absurd c_7 (by decide)
      · first | exact absurd rfl c_6 | exact absurd c_6 (by decide)

set_option maxRecDepth 100000 in
set_option maxHeartbeats 8000000 in
/-- the law's arm: kth -/
theorem a_kth {p : Program} {l : Launch} {e : Env} {s : State} {m : MethodId} {below : List Frame} {meth : Method} {c : Code} {dC : Nat → ClassId} {dI : Nat → Nat → Nat} {bs L : Nat} {xs : Nat → Int32} (hlt : l.stackTraces = false) (hL : L ≤ 2048) (C0 : lw_At p s m meth c bs L xs) {ca : Nat → ClassId} {ad : Nat → Nat} {co : ClassId} {oa : Nat} {cm : Nat → ClassId} {am : Nat → Nat} (hK : va_K (dC, dI) vwCl (lwT ca co cm) s) (hX : xwP (fun q : Nat => s.heap.size ≤ q) s) (j : Nat) (hj : 4 * j + 4 ≤ L) (KK : lw_go p l e s m below meth c dC dI bs ca ad co oa cm am (4 * j) 635 (19 + 2 * j) (2768 + 12 * j)) : lw_go p l e s m below meth c dC dI bs ca ad co oa cm am (4 * j) 355 (17 + 2 * j) (2756 + 12 * j) := by
  intro t k v b n kd ln w nw ins o th hd so fq hji H locs hP hD hS ls hl
  obtain ⟨hx, hb, hr, hml, hown0, hts0, hXs, hbl, hlocks, hgv⟩ := C0
  have hown : s.vm.findClass RL = some m.cls := hown0
  have hts : ∀ w ∈ kL_window :: gt, w.before #[Value.ref bs] s = true := fun w h => hts0 w ((List.mem_cons.mp h).elim (fun e => by rw [e]; exact gt_in _ kwL_window) (fun h => gt_in _ h))
  have hA : ∀ q : Nat, s.heap.size ≤ q → (fun q : Nat => s.heap.size ≤ q) q := fun _ h => h
  have hbA : ¬ (fun q : Nat => s.heap.size ≤ q) bs := Nat.not_le.mpr hbl
  have hin : ∀ k : Nat, k < 4 → vp_in (nI (4 * j + k)) L := fun k hk => vp_in_nI (by omega) (by omega)
  obtain ⟨y0, ey0⟩ : ∃ y : Int32, xs (nI (4 * j)).toNatClampNeg = y := ⟨_, rfl⟩
  obtain ⟨y1, ey1⟩ : ∃ y : Int32, xs (nI (4 * j + 1)).toNatClampNeg = y := ⟨_, rfl⟩
  obtain ⟨y2, ey2⟩ : ∃ y : Int32, xs (nI (4 * j + 2)).toNatClampNeg = y := ⟨_, rfl⟩
  obtain ⟨y3, ey3⟩ : ∃ y : Int32, xs (nI (4 * j + 3)).toNatClampNeg = y := ⟨_, rfl⟩
  obtain ⟨hn, hw6, hk8, hbo, hbs, ht8, hnw, hln⟩ := id hji
  have hbn := pb_lt hbo
  refine lv_aload_n hx hb dL_law_355 rfl (lv_at hl 1 rfl) ?_
  refine lv_aload_n hx hb dL_law_356 rfl (lv_at hl 0 rfl) ?_
  refine lv_iload hx hb dL_law_357 (lv_at hl 4 rfl) ?_
  refine lv_iconst (v := 1) hx hb dL_law_359 (by decide) ?_
  refine lv_iadd hx hb dL_law_360 ?_
  rw [nI_1 (4 * j)]
  refine va_sld hx hb hXs hbl hbA hS (hin 1 (by decide)) dL_law_361 ?_
  rw [ey1]
  refine lv_aload_n hx hb dL_law_362 rfl (lv_at hl 0 rfl) ?_
  refine lv_iload hx hb dL_law_363 (lv_at hl 4 rfl) ?_
  refine lv_iconst (v := 2) hx hb dL_law_365 (by decide) ?_
  refine lv_iadd hx hb dL_law_366 ?_
  rw [yl_2 (4 * j)]
  refine va_sld hx hb hXs hbl hbA hS (hin 2 (by decide)) dL_law_367 ?_
  rw [ey2]
  refine lv_aload_n hx hb dL_law_368 rfl (lv_at hl 3 rfl) ?_
  have hPc := hP.sub (ws' := wo ca ad co oa t k v b n kd ln w nw ins o) [0, 1, 2, 3, 4, 5, 6, 7, 8] rfl
  have hDc := hD.sub (ws' := wo ca ad co oa t k v b n kd ln w nw ins o) [0, 1, 2, 3, 4, 5, 6, 7, 8] (by decide) rfl
  have hKc := hK.sub (tys' := woT ca co) [0, 1, 2, 3, 4, 5, 6, 7] rfl
  have hFc := va_free (wc := wo ca ad co oa t k v b n kd ln w nw ins o) hD hS hA [0, 1, 2, 3, 4, 5, 6, 7, 8] rfl
  refine va_calli (vx_runSW (As := [.ref (ad 0), .int y1, .int y2, .ref oa]) (rest := []) ⟨hx, hb, hml, hown, hts⟩ (c_L_kth l hlt dC dI ca ad co oa _ t k v b n kd ln w nw ins o y1 y2 hn hk8 hw6 hbn) (vx_cwSW 4 hts (gg_S mlL_75 stL_kth in_WindowMetersLaw kwL_kth) rfl rfl rfl (by decide +kernel) ⟨Nat.le_of_ble_eq_true rfl, Nat.le_of_ble_eq_true rfl⟩) (lw_preS hKc hPc hDc hS hFc hX [.ref (ad 0), .int y1, .int y2, .ref oa]) rfl rfl hl.1 rfl (lv_room (Nat.le_of_ble_eq_true rfl)) dL_law_369 ⟨show 17 + 2 * j + 2 ≤ 1052 by omega, show 2756 + 12 * j + 12 ≤ 11011 by omega⟩) hS (fun q _ h => hFc q h) hFc (fun r9 u9 t9 H1 locs ht9 hvm hw9 hB hz1 hk1 hS => ?_)
  obtain ⟨hP1, -, hD1⟩ := hB
  rw [ht9] at hP1
  obtain ⟨i9, o9⟩ := u9
  dsimp only at hw9
  rcases hw9 with ⟨rfl, wi, q9, x9, hwi, hp1, hmk, hq9, hf9, hc9, hx9, ho9⟩ | ⟨rfl, hg⟩ | ⟨rfl, wi, hwi, hp1, hmk, hall⟩
  · obtain ⟨hP, hD⟩ := va_join (wr := md cm am th t k v n nw w kd ln hd so fq) (w1 := wo ca ad co oa t k v b n kd ln w nw i9 o9) hP hD [0, 1, 2, 3, 4, 5, 6, 7, 8] [9, 10, 11, 12, 13, 14, 15] rfl rfl (by decide) (by decide) hk1 hFc hP1 hD1
    have hP := hP.sub (ws' := lwW ca ad co oa cm am t k v b n kd ln w nw i9 o9 th t k v n nw w kd ln hd so fq) [7, 8, 9, 10, 11, 12, 13, 14, 15, 0, 1, 2, 3, 4, 5, 6] rfl
    have hD := hD.sub (ws' := lwW ca ad co oa cm am t k v b n kd ln w nw i9 o9 th t k v n nw w kd ln hd so fq) [7, 8, 9, 10, 11, 12, 13, 14, 15, 0, 1, 2, 3, 4, 5, 6] (by decide) rfl
    refine lv_istore (lv' := [(5, .int 0), (0, .ref bs), (1, .ref (ad 0)), (2, .ref (am 0)), (3, .ref oa), (4, .int (nI (4 * j)))]) hx hb dL_law_372 hl (by decide) rfl (fun ls hl => ?_)
    refine lv_aload_n hx hb dL_law_374 rfl (lv_at hl 3 rfl) ?_
    refine lv_aload_n hx hb dL_law_375 rfl (lv_at hl 1 rfl) ?_
    refine lv_iload hx hb dL_law_376 (lv_at hl 5 rfl) ?_
    refine lv_iconst (v := 1) hx hb dL_law_378 (by decide) ?_
    refine lv_iadd hx hb dL_law_379 ?_
    rw [nI_1 (4 * j)]
    refine va_sld hx hb hXs hbl hbA hS (hin 1 (by decide)) dL_law_380 ?_
    rw [ey1]
    refine lv_aload_n hx hb dL_law_381 rfl (lv_at hl 1 rfl) ?_
    refine lv_iload hx hb dL_law_382 (lv_at hl 5 rfl) ?_
    refine lv_iconst (v := 2) hx hb dL_law_384 (by decide) ?_
    refine lv_iadd hx hb dL_law_385 ?_
    rw [yl_2 (4 * j)]
    refine va_sld hx hb hXs hbl hbA hS (hin 2 (by decide)) dL_law_386 ?_
    rw [ey2]
    have hPc := hP.sub (ws' := md cm am th t k v n nw w kd ln hd so fq) [9, 10, 11, 12, 13, 14, 15] rfl
    have hDc := hD.sub (ws' := md cm am th t k v n nw w kd ln hd so fq) [9, 10, 11, 12, 13, 14, 15] (by decide) rfl
    have hKc := hK.sub (tys' := mdT cm) [8, 9, 10, 11, 12, 13] rfl
    have hFc := va_free (wc := md cm am th t k v n nw w kd ln hd so fq) hD hS hA [9, 10, 11, 12, 13, 14, 15] rfl
    refine va_calli (va_runV (As := [.int y1, .int y2]) (rest := []) ⟨hx, hb, hml, hown, hts⟩ (m_kth l dC dI cm am _ th t k v n nw w kd ln hd so fq y1 y2 hn hk8 hw6) (cwV 2 hts (gg_V mlL_77 imX1_kth seX1_kth in_WindowMetersModel kwX1_kth) rfl rfl rfl (by decide +kernel) ⟨Nat.le_of_ble_eq_true rfl, Nat.le_of_ble_eq_true rfl⟩) (md_preV hKc hPc hDc [.int y1, .int y2]) rfl rfl hl.1 rfl (lv_room (Nat.le_of_ble_eq_true rfl)) dL_law_387 ⟨show 17 + 2 * j + 2 + 0 ≤ 1052 by omega, show 2756 + 12 * j + 12 + 0 ≤ 11011 by omega⟩) hS (fun q _ h => hFc q h) hFc (fun rm um t9 H1 locs ht9 hvm hm9 hB hz1 hk1 hS => ?_)
    obtain ⟨hP1, -, hD1⟩ := hB
    rw [ht9] at hP1
    obtain ⟨th9, hd9, so9, fq9⟩ := um
    dsimp only at hm9
    rcases hm9 with ⟨w2, j9, hw2, hp2, rfl, hok, hj9, hpj, hrm⟩ | ⟨g1, rfl⟩ | ⟨w2, hw2, hp2, rfl, hok, hno⟩
    · have hww : w2 = wi := nI_inj (by omega) (by omega) (hp2.symm.trans hp1)
      rw [hww] at hok
      obtain ⟨hP, hD⟩ := va_join (wr := wo ca ad co oa t k v b n kd ln w nw i9 o9) (w1 := md cm am 0 t k v n nw w kd ln hd9 so9 fq9) hP hD [9, 10, 11, 12, 13, 14, 15] [0, 1, 2, 3, 4, 5, 6, 7, 8] rfl rfl (by decide) (by decide) hk1 hFc hP1 hD1
      have hP : va_P (dC, dI) vwCl (lwW ca ad co oa cm am t k v b n kd ln w nw i9 o9 0 t k v n nw w kd ln hd9 so9 fq9) H1 := hP
      have hD : va_D (fun q : Nat => s.heap.size ≤ q) (lwW ca ad co oa cm am t k v b n kd ln w nw i9 o9 0 t k v n nw w kd ln hd9 so9 fq9) := hD
      refine lv_istore (lv' := [(6, .int rm), (5, .int 0), (0, .ref bs), (1, .ref (ad 0)), (2, .ref (am 0)), (3, .ref oa), (4, .int (nI (4 * j)))]) hx hb dL_law_390 hl (by decide) rfl (fun ls hl => ?_)
      refine lv_aload_n hx hb dL_law_392 rfl (lv_at hl 4 rfl) ?_
      have hPc := hP.sub (ws' := md cm am 0 t k v n nw w kd ln hd9 so9 fq9) [9, 10, 11, 12, 13, 14, 15] rfl
      have hDc := hD.sub (ws' := md cm am 0 t k v n nw w kd ln hd9 so9 fq9) [9, 10, 11, 12, 13, 14, 15] (by decide) rfl
      have hKc := hK.sub (tys' := mdT cm) [8, 9, 10, 11, 12, 13] rfl
      refine vp_callSi (W.runV (As := []) (rest := []) ⟨hx, hb, hml, hown, hts⟩ (m_thrown l dC dI cm am _ 0 t k v n nw w kd ln hd9 so9 fq9) (cwV 0 hts (gg_V mlL_60 imX1_thrown seX1_thrown in_WindowMetersModel kwX1_thrown) rfl rfl rfl (by decide +kernel) ⟨Nat.le_of_ble_eq_true rfl, Nat.le_of_ble_eq_true rfl⟩) (md_preV hKc hPc hDc []) rfl rfl hl.1 rfl (lv_room (Nat.le_of_ble_eq_true rfl)) dL_law_393 ⟨show 17 + 2 * j + 2 + 0 ≤ 1052 by omega, show 2756 + 12 * j + 12 + 0 ≤ 11011 by omega⟩) (fun rt hrt => ?_)
      obtain rfl : rt = 0 := hrt
      refine lv_iload hx hb dL_law_396 (lv_at hl 1 rfl) ?_
      refine lv_icmp_eq (tgt := 403) hx hb dL_law_398 (by decide) (fun c_1 => ?_) (fun c_1 => ?_)
      · refine lv_iload hx hb dL_law_403 (lv_at hl 1 rfl) ?_
        refine lv_if_ne (tgt := 420) hx hb dL_law_405 (by decide) (fun c_2 => ?_) (fun c_2 => ?_)
        · first | exact absurd rfl c_2 | exact absurd c_2 (by decide)
        · refine lv_aload_n hx hb dL_law_408 rfl (lv_at hl 5 rfl) ?_
          refine lv_iconst (v := 0) hx hb dL_law_409 (by decide) ?_
          refine va_lald hx hb hK hP 8 7 rfl rfl yo_in dL_law_410 ?_
          refine lv_iload hx hb dL_law_411 (lv_at hl 0 rfl) ?_
          refine lv_i2l (v := rm.toInt64) hx hb dL_law_413 rfl ?_
          refine yo_lcmp (by rw [ho9, yl_get, hx9, hrm, eq_kth hn hbo hbs (jx_perm hmk (fun j9 hj9 => in_iff hj9 ht8 hnw (hln wi hwi)) hok) hq9 hf9 hj9 (hc9.trans hpj)]) hx hb dL_law_414 ?_
          refine lv_if_eq (tgt := 420) hx hb dL_law_415 (by decide) (fun c_3 => ?_) (fun c_3 => ?_)
          · refine lv_goto (tgt := 635) hx hb dL_law_420 (by decide) ?_
            refine W.widen (k := 19 + 2 * j) (n := 2768 + 12 * j) (show 17 + 2 * j + 2 ≤ 19 + 2 * j by omega) (show 2756 + 12 * j + 12 ≤ 2768 + 12 * j by omega) ?_
            exact KK t k v b n kd ln w nw i9 o9 0 hd9 so9 fq9 hji _ _ hP hD hS ls (lv_sub hl [2, 3, 4, 5, 6] rfl)
          · first | exact absurd rfl c_3 | exact absurd c_3 (by decide)
      · first | exact absurd rfl c_1 | exact absurd c_1 (by decide)
    · exact absurd ⟨wi, hwi, hp1⟩ g1
    · have hww : w2 = wi := nI_inj (by omega) (by omega) (hp2.symm.trans hp1)
      rw [hww] at hok
      exact absurd ((eq_ktz hbo hbs (jx_perm hmk (fun j9 hj9 => in_iff hj9 ht8 hnw (hln wi hwi)) hok)).mp ⟨q9, hq9, hf9, hc9⟩) hno
  · obtain ⟨hP, hD⟩ := va_join (wr := md cm am th t k v n nw w kd ln hd so fq) (w1 := wo ca ad co oa t k v b n kd ln w nw i9 o9) hP hD [0, 1, 2, 3, 4, 5, 6, 7, 8] [9, 10, 11, 12, 13, 14, 15] rfl rfl (by decide) (by decide) hk1 hFc hP1 hD1
    have hP := hP.sub (ws' := lwW ca ad co oa cm am t k v b n kd ln w nw i9 o9 th t k v n nw w kd ln hd so fq) [7, 8, 9, 10, 11, 12, 13, 14, 15, 0, 1, 2, 3, 4, 5, 6] rfl
    have hD := hD.sub (ws' := lwW ca ad co oa cm am t k v b n kd ln w nw i9 o9 th t k v n nw w kd ln hd so fq) [7, 8, 9, 10, 11, 12, 13, 14, 15, 0, 1, 2, 3, 4, 5, 6] (by decide) rfl
    refine lv_istore (lv' := [(5, .int 1), (0, .ref bs), (1, .ref (ad 0)), (2, .ref (am 0)), (3, .ref oa), (4, .int (nI (4 * j)))]) hx hb dL_law_372 hl (by decide) rfl (fun ls hl => ?_)
    refine lv_aload_n hx hb dL_law_374 rfl (lv_at hl 3 rfl) ?_
    refine lv_aload_n hx hb dL_law_375 rfl (lv_at hl 1 rfl) ?_
    refine lv_iload hx hb dL_law_376 (lv_at hl 5 rfl) ?_
    refine lv_iconst (v := 1) hx hb dL_law_378 (by decide) ?_
    refine lv_iadd hx hb dL_law_379 ?_
    rw [nI_1 (4 * j)]
    refine va_sld hx hb hXs hbl hbA hS (hin 1 (by decide)) dL_law_380 ?_
    rw [ey1]
    refine lv_aload_n hx hb dL_law_381 rfl (lv_at hl 1 rfl) ?_
    refine lv_iload hx hb dL_law_382 (lv_at hl 5 rfl) ?_
    refine lv_iconst (v := 2) hx hb dL_law_384 (by decide) ?_
    refine lv_iadd hx hb dL_law_385 ?_
    rw [yl_2 (4 * j)]
    refine va_sld hx hb hXs hbl hbA hS (hin 2 (by decide)) dL_law_386 ?_
    rw [ey2]
    have hPc := hP.sub (ws' := md cm am th t k v n nw w kd ln hd so fq) [9, 10, 11, 12, 13, 14, 15] rfl
    have hDc := hD.sub (ws' := md cm am th t k v n nw w kd ln hd so fq) [9, 10, 11, 12, 13, 14, 15] (by decide) rfl
    have hKc := hK.sub (tys' := mdT cm) [8, 9, 10, 11, 12, 13] rfl
    have hFc := va_free (wc := md cm am th t k v n nw w kd ln hd so fq) hD hS hA [9, 10, 11, 12, 13, 14, 15] rfl
    refine va_calli (va_runV (As := [.int y1, .int y2]) (rest := []) ⟨hx, hb, hml, hown, hts⟩ (m_kth l dC dI cm am _ th t k v n nw w kd ln hd so fq y1 y2 hn hk8 hw6) (cwV 2 hts (gg_V mlL_77 imX1_kth seX1_kth in_WindowMetersModel kwX1_kth) rfl rfl rfl (by decide +kernel) ⟨Nat.le_of_ble_eq_true rfl, Nat.le_of_ble_eq_true rfl⟩) (md_preV hKc hPc hDc [.int y1, .int y2]) rfl rfl hl.1 rfl (lv_room (Nat.le_of_ble_eq_true rfl)) dL_law_387 ⟨show 17 + 2 * j + 2 + 0 ≤ 1052 by omega, show 2756 + 12 * j + 12 + 0 ≤ 11011 by omega⟩) hS (fun q _ h => hFc q h) hFc (fun rm um t9 H1 locs ht9 hvm hm9 hB hz1 hk1 hS => ?_)
    obtain ⟨hP1, -, hD1⟩ := hB
    rw [ht9] at hP1
    obtain ⟨th9, hd9, so9, fq9⟩ := um
    dsimp only at hm9
    rcases hm9 with ⟨w2, j9, hw2, hp2, rfl, hok, hj9, hpj, hrm⟩ | ⟨g1, rfl⟩ | ⟨w2, hw2, hp2, rfl, hok, hno⟩
    · exact absurd ⟨w2, hw2, hp2⟩ hg
    · obtain ⟨hP, hD⟩ := va_join (wr := wo ca ad co oa t k v b n kd ln w nw i9 o9) (w1 := md cm am 1 t k v n nw w kd ln hd9 so9 fq9) hP hD [9, 10, 11, 12, 13, 14, 15] [0, 1, 2, 3, 4, 5, 6, 7, 8] rfl rfl (by decide) (by decide) hk1 hFc hP1 hD1
      have hP : va_P (dC, dI) vwCl (lwW ca ad co oa cm am t k v b n kd ln w nw i9 o9 1 t k v n nw w kd ln hd9 so9 fq9) H1 := hP
      have hD : va_D (fun q : Nat => s.heap.size ≤ q) (lwW ca ad co oa cm am t k v b n kd ln w nw i9 o9 1 t k v n nw w kd ln hd9 so9 fq9) := hD
      refine lv_istore (lv' := [(6, .int rm), (5, .int 1), (0, .ref bs), (1, .ref (ad 0)), (2, .ref (am 0)), (3, .ref oa), (4, .int (nI (4 * j)))]) hx hb dL_law_390 hl (by decide) rfl (fun ls hl => ?_)
      refine lv_aload_n hx hb dL_law_392 rfl (lv_at hl 4 rfl) ?_
      have hPc := hP.sub (ws' := md cm am 1 t k v n nw w kd ln hd9 so9 fq9) [9, 10, 11, 12, 13, 14, 15] rfl
      have hDc := hD.sub (ws' := md cm am 1 t k v n nw w kd ln hd9 so9 fq9) [9, 10, 11, 12, 13, 14, 15] (by decide) rfl
      have hKc := hK.sub (tys' := mdT cm) [8, 9, 10, 11, 12, 13] rfl
      refine vp_callSi (W.runV (As := []) (rest := []) ⟨hx, hb, hml, hown, hts⟩ (m_thrown l dC dI cm am _ 1 t k v n nw w kd ln hd9 so9 fq9) (cwV 0 hts (gg_V mlL_60 imX1_thrown seX1_thrown in_WindowMetersModel kwX1_thrown) rfl rfl rfl (by decide +kernel) ⟨Nat.le_of_ble_eq_true rfl, Nat.le_of_ble_eq_true rfl⟩) (md_preV hKc hPc hDc []) rfl rfl hl.1 rfl (lv_room (Nat.le_of_ble_eq_true rfl)) dL_law_393 ⟨show 17 + 2 * j + 2 + 0 ≤ 1052 by omega, show 2756 + 12 * j + 12 + 0 ≤ 11011 by omega⟩) (fun rt hrt => ?_)
      obtain rfl : rt = 1 := hrt
      refine lv_iload hx hb dL_law_396 (lv_at hl 1 rfl) ?_
      refine lv_icmp_eq (tgt := 403) hx hb dL_law_398 (by decide) (fun c_4 => ?_) (fun c_4 => ?_)
      · refine lv_iload hx hb dL_law_403 (lv_at hl 1 rfl) ?_
        refine lv_if_ne (tgt := 420) hx hb dL_law_405 (by decide) (fun c_5 => ?_) (fun c_5 => ?_)
        · refine lv_goto (tgt := 635) hx hb dL_law_420 (by decide) ?_
          refine W.widen (k := 19 + 2 * j) (n := 2768 + 12 * j) (show 17 + 2 * j + 2 ≤ 19 + 2 * j by omega) (show 2756 + 12 * j + 12 ≤ 2768 + 12 * j by omega) ?_
          exact KK t k v b n kd ln w nw i9 o9 1 hd9 so9 fq9 hji _ _ hP hD hS ls (lv_sub hl [2, 3, 4, 5, 6] rfl)
        · first | exact absurd rfl c_5 | exact absurd c_5 (by decide)
      · first | exact absurd rfl c_4 | exact absurd c_4 (by decide)
    · exact absurd ⟨w2, hw2, hp2⟩ hg
  · obtain ⟨hP, hD⟩ := va_join (wr := md cm am th t k v n nw w kd ln hd so fq) (w1 := wo ca ad co oa t k v b n kd ln w nw i9 o9) hP hD [0, 1, 2, 3, 4, 5, 6, 7, 8] [9, 10, 11, 12, 13, 14, 15] rfl rfl (by decide) (by decide) hk1 hFc hP1 hD1
    have hP := hP.sub (ws' := lwW ca ad co oa cm am t k v b n kd ln w nw i9 o9 th t k v n nw w kd ln hd so fq) [7, 8, 9, 10, 11, 12, 13, 14, 15, 0, 1, 2, 3, 4, 5, 6] rfl
    have hD := hD.sub (ws' := lwW ca ad co oa cm am t k v b n kd ln w nw i9 o9 th t k v n nw w kd ln hd so fq) [7, 8, 9, 10, 11, 12, 13, 14, 15, 0, 1, 2, 3, 4, 5, 6] (by decide) rfl
    refine lv_istore (lv' := [(5, .int 2), (0, .ref bs), (1, .ref (ad 0)), (2, .ref (am 0)), (3, .ref oa), (4, .int (nI (4 * j)))]) hx hb dL_law_372 hl (by decide) rfl (fun ls hl => ?_)
    refine lv_aload_n hx hb dL_law_374 rfl (lv_at hl 3 rfl) ?_
    refine lv_aload_n hx hb dL_law_375 rfl (lv_at hl 1 rfl) ?_
    refine lv_iload hx hb dL_law_376 (lv_at hl 5 rfl) ?_
    refine lv_iconst (v := 1) hx hb dL_law_378 (by decide) ?_
    refine lv_iadd hx hb dL_law_379 ?_
    rw [nI_1 (4 * j)]
    refine va_sld hx hb hXs hbl hbA hS (hin 1 (by decide)) dL_law_380 ?_
    rw [ey1]
    refine lv_aload_n hx hb dL_law_381 rfl (lv_at hl 1 rfl) ?_
    refine lv_iload hx hb dL_law_382 (lv_at hl 5 rfl) ?_
    refine lv_iconst (v := 2) hx hb dL_law_384 (by decide) ?_
    refine lv_iadd hx hb dL_law_385 ?_
    rw [yl_2 (4 * j)]
    refine va_sld hx hb hXs hbl hbA hS (hin 2 (by decide)) dL_law_386 ?_
    rw [ey2]
    have hPc := hP.sub (ws' := md cm am th t k v n nw w kd ln hd so fq) [9, 10, 11, 12, 13, 14, 15] rfl
    have hDc := hD.sub (ws' := md cm am th t k v n nw w kd ln hd so fq) [9, 10, 11, 12, 13, 14, 15] (by decide) rfl
    have hKc := hK.sub (tys' := mdT cm) [8, 9, 10, 11, 12, 13] rfl
    have hFc := va_free (wc := md cm am th t k v n nw w kd ln hd so fq) hD hS hA [9, 10, 11, 12, 13, 14, 15] rfl
    refine va_calli (va_runV (As := [.int y1, .int y2]) (rest := []) ⟨hx, hb, hml, hown, hts⟩ (m_kth l dC dI cm am _ th t k v n nw w kd ln hd so fq y1 y2 hn hk8 hw6) (cwV 2 hts (gg_V mlL_77 imX1_kth seX1_kth in_WindowMetersModel kwX1_kth) rfl rfl rfl (by decide +kernel) ⟨Nat.le_of_ble_eq_true rfl, Nat.le_of_ble_eq_true rfl⟩) (md_preV hKc hPc hDc [.int y1, .int y2]) rfl rfl hl.1 rfl (lv_room (Nat.le_of_ble_eq_true rfl)) dL_law_387 ⟨show 17 + 2 * j + 2 + 0 ≤ 1052 by omega, show 2756 + 12 * j + 12 + 0 ≤ 11011 by omega⟩) hS (fun q _ h => hFc q h) hFc (fun rm um t9 H1 locs ht9 hvm hm9 hB hz1 hk1 hS => ?_)
    obtain ⟨hP1, -, hD1⟩ := hB
    rw [ht9] at hP1
    obtain ⟨th9, hd9, so9, fq9⟩ := um
    dsimp only at hm9
    rcases hm9 with ⟨w2, j9, hw2, hp2, rfl, hok, hj9, hpj, hrm⟩ | ⟨g1, rfl⟩ | ⟨w2, hw2, hp2, rfl, hok, hno⟩
    · have hww : w2 = wi := nI_inj (by omega) (by omega) (hp2.symm.trans hp1)
      rw [hww] at hok
      obtain ⟨q8, a1, a2, a3⟩ := (eq_ktz (p2 := y2) hbo hbs (jx_perm hmk (fun j9 hj9 => in_iff hj9 ht8 hnw (hln wi hwi)) hok)).mpr ⟨j9, hj9, hpj⟩
      exact absurd a3 (hall q8 a1 a2)
    · exact absurd ⟨wi, hwi, hp1⟩ g1
    · obtain ⟨hP, hD⟩ := va_join (wr := wo ca ad co oa t k v b n kd ln w nw i9 o9) (w1 := md cm am 2 t k v n nw w kd ln hd9 so9 fq9) hP hD [9, 10, 11, 12, 13, 14, 15] [0, 1, 2, 3, 4, 5, 6, 7, 8] rfl rfl (by decide) (by decide) hk1 hFc hP1 hD1
      have hP : va_P (dC, dI) vwCl (lwW ca ad co oa cm am t k v b n kd ln w nw i9 o9 2 t k v n nw w kd ln hd9 so9 fq9) H1 := hP
      have hD : va_D (fun q : Nat => s.heap.size ≤ q) (lwW ca ad co oa cm am t k v b n kd ln w nw i9 o9 2 t k v n nw w kd ln hd9 so9 fq9) := hD
      refine lv_istore (lv' := [(6, .int rm), (5, .int 2), (0, .ref bs), (1, .ref (ad 0)), (2, .ref (am 0)), (3, .ref oa), (4, .int (nI (4 * j)))]) hx hb dL_law_390 hl (by decide) rfl (fun ls hl => ?_)
      refine lv_aload_n hx hb dL_law_392 rfl (lv_at hl 4 rfl) ?_
      have hPc := hP.sub (ws' := md cm am 2 t k v n nw w kd ln hd9 so9 fq9) [9, 10, 11, 12, 13, 14, 15] rfl
      have hDc := hD.sub (ws' := md cm am 2 t k v n nw w kd ln hd9 so9 fq9) [9, 10, 11, 12, 13, 14, 15] (by decide) rfl
      have hKc := hK.sub (tys' := mdT cm) [8, 9, 10, 11, 12, 13] rfl
      refine vp_callSi (W.runV (As := []) (rest := []) ⟨hx, hb, hml, hown, hts⟩ (m_thrown l dC dI cm am _ 2 t k v n nw w kd ln hd9 so9 fq9) (cwV 0 hts (gg_V mlL_60 imX1_thrown seX1_thrown in_WindowMetersModel kwX1_thrown) rfl rfl rfl (by decide +kernel) ⟨Nat.le_of_ble_eq_true rfl, Nat.le_of_ble_eq_true rfl⟩) (md_preV hKc hPc hDc []) rfl rfl hl.1 rfl (lv_room (Nat.le_of_ble_eq_true rfl)) dL_law_393 ⟨show 17 + 2 * j + 2 + 0 ≤ 1052 by omega, show 2756 + 12 * j + 12 + 0 ≤ 11011 by omega⟩) (fun rt hrt => ?_)
      obtain rfl : rt = 2 := hrt
      refine lv_iload hx hb dL_law_396 (lv_at hl 1 rfl) ?_
      refine lv_icmp_eq (tgt := 403) hx hb dL_law_398 (by decide) (fun c_6 => ?_) (fun c_6 => ?_)
      · refine lv_iload hx hb dL_law_403 (lv_at hl 1 rfl) ?_
        refine lv_if_ne (tgt := 420) hx hb dL_law_405 (by decide) (fun c_7 => ?_) (fun c_7 => ?_)
        · refine lv_goto (tgt := 635) hx hb dL_law_420 (by decide) ?_
          refine W.widen (k := 19 + 2 * j) (n := 2768 + 12 * j) (show 17 + 2 * j + 2 ≤ 19 + 2 * j by omega) (show 2756 + 12 * j + 12 ≤ 2768 + 12 * j by omega) ?_
          exact KK t k v b n kd ln w nw i9 o9 2 hd9 so9 fq9 hji _ _ hP hD hS ls (lv_sub hl [2, 3, 4, 5, 6] rfl)
        · first | exact absurd rfl c_7 | exact absurd c_7 (by decide)
      · first | exact absurd rfl c_6 | exact absurd c_6 (by decide)
