set_option maxRecDepth 100000 in
set_option maxHeartbeats 8000000 in
/-- the law's arm: clear -/
theorem a_clear {p : Program} {l : Launch} {e : Env} {s : State} {m : MethodId} {below : List Frame} {meth : Method} {c : Code} {dC : Nat → ClassId} {dI : Nat → Nat → Nat} {bs L : Nat} {xs : Nat → Int32} (hlt : l.stackTraces = false) (hL : L ≤ 2048) (C0 : lw_At p s m meth c bs L xs) {ca : Nat → ClassId} {ad : Nat → Nat} {co : ClassId} {oa : Nat} {cm : Nat → ClassId} {am : Nat → Nat} (hK : va_K (dC, dI) vwCl (lwT ca co cm) s) (hX : xwP (fun q : Nat => s.heap.size ≤ q) s) (j : Nat) (hj : 4 * j + 4 ≤ L) (KK : lw_go p l e s m below meth c dC dI bs ca ad co oa cm am (4 * j) 635 (19 + 2 * j) (2768 + 12 * j)) : lw_go p l e s m below meth c dC dI bs ca ad co oa cm am (4 * j) 92 (17 + 2 * j) (2756 + 12 * j) := by
  intro t k v b n kd ln w nw ins o th hd so fq hji H locs hP hD hS ls hl
  obtain ⟨hx, hb, hr, hml, hown0, hts0, hXs, hbl, hlocks, hgv⟩ := C0
  have hown : s.vm.findClass RL = some m.cls := hown0
  have hts : ∀ w ∈ kL_window :: gt, w.before #[Value.ref bs] s = true := fun w h => hts0 w ((List.mem_cons.mp h).elim (fun e => by rw [e]; exact gt_in _ kwL_window) (fun h => gt_in _ h))
  have hA : ∀ q : Nat, s.heap.size ≤ q → (fun q : Nat => s.heap.size ≤ q) q := fun _ h => h
  have hbA : ¬ (fun q : Nat => s.heap.size ≤ q) bs := Nat.not_le.mpr hbl
  have hin : ∀ k : Nat, k < 4 → vp_in (nI (4 * j + k)) L := fun k hk => vp_in_nI (by omega) (by omega)
  obtain ⟨y0, ey0⟩ : ∃ y : Int32, xs (nI (4 * j)).toNatClampNeg = y := ⟨_, rfl⟩
  obtain ⟨y1, ey1⟩ : ∃ y : Int32, xs (nI (4 * j + 1)).toNatClampNeg = y := ⟨_, rfl⟩
  obtain ⟨y2, ey2⟩ : ∃ y : Int32, xs (nI (4 * j + 2)).toNatClampNeg = y := ⟨_, rfl⟩
  obtain ⟨y3, ey3⟩ : ∃ y : Int32, xs (nI (4 * j + 3)).toNatClampNeg = y := ⟨_, rfl⟩
  obtain ⟨hn, hw6, hk8, hbo, hbs, ht8, hnw, hln⟩ := id hji
  have hbn := pb_lt hbo
  refine lv_aload_n hx hb dL_law_92 rfl (lv_at hl 1 rfl) ?_
  have hPc := hP.sub (ws' := wm ca ad t k v b n kd ln w nw ins) [0, 1, 2, 3, 4, 5, 6, 7] rfl
  have hDc := hD.sub (ws' := wm ca ad t k v b n kd ln w nw ins) [0, 1, 2, 3, 4, 5, 6, 7] (by decide) rfl
  have hKc := hK.sub (tys' := wmT ca) [0, 1, 2, 3, 4, 5, 6] rfl
  have hFc := va_free (wc := wm ca ad t k v b n kd ln w nw ins) hD hS hA [0, 1, 2, 3, 4, 5, 6, 7] rfl
  refine va_callv (va_runV (As := []) (rest := []) ⟨hx, hb, hml, hown, hts⟩ (c_clear l dC dI ca ad _ t k v b n kd ln w nw ins) (cwV 0 hts (gg_V mlL_50 imX0_clear seX0_clear in_WindowMeters kwX0_clear) rfl rfl rfl (by decide +kernel) ⟨Nat.le_of_ble_eq_true rfl, Nat.le_of_ble_eq_true rfl⟩) (wm_preV hKc hPc hDc []) rfl rfl hl.1 rfl (lv_room (Nat.le_of_ble_eq_true rfl)) dL_law_93 ⟨show 17 + 2 * j + 0 ≤ 1052 by omega, show 2756 + 12 * j + 0 ≤ 11011 by omega⟩) hS (fun q _ h => hFc q h) hFc (fun u9 t9 H1 locs ht9 hvm hw9 hB hz1 hk1 hS => ?_)
  obtain ⟨hP1, -, hD1⟩ := hB
  rw [ht9] at hP1
  obtain ⟨hP, hD⟩ := va_join (wr := (oa, .inl (co, 1, .inr (.inl o))) :: (md cm am th t k v n nw w kd ln hd so fq)) (w1 := wm ca ad t k v b 0 kd ln 0 0 ins) hP hD [0, 1, 2, 3, 4, 5, 6, 7] [8, 9, 10, 11, 12, 13, 14, 15] rfl rfl (by decide) (by decide) hk1 hFc hP1 hD1
  have hP := hP.sub (ws' := lwW ca ad co oa cm am t k v b 0 kd ln 0 0 ins o th t k v n nw w kd ln hd so fq) [8, 9, 10, 11, 12, 13, 14, 15, 0, 1, 2, 3, 4, 5, 6, 7] rfl
  have hD := hD.sub (ws' := lwW ca ad co oa cm am t k v b 0 kd ln 0 0 ins o th t k v n nw w kd ln hd so fq) [8, 9, 10, 11, 12, 13, 14, 15, 0, 1, 2, 3, 4, 5, 6, 7] (by decide) rfl
  refine lv_aload_n hx hb dL_law_96 rfl (lv_at hl 2 rfl) ?_
  have hPc := hP.sub (ws' := md cm am th t k v n nw w kd ln hd so fq) [9, 10, 11, 12, 13, 14, 15] rfl
  have hDc := hD.sub (ws' := md cm am th t k v n nw w kd ln hd so fq) [9, 10, 11, 12, 13, 14, 15] (by decide) rfl
  have hKc := hK.sub (tys' := mdT cm) [8, 9, 10, 11, 12, 13] rfl
  have hFc := va_free (wc := md cm am th t k v n nw w kd ln hd so fq) hD hS hA [9, 10, 11, 12, 13, 14, 15] rfl
  refine va_callv (va_runV (As := []) (rest := []) ⟨hx, hb, hml, hown, hts⟩ (m_clear l dC dI cm am _ th t k v n nw w kd ln hd so fq  ) (cwV 0 hts (gg_V mlL_53 imX1_clear seX1_clear in_WindowMetersModel kwX1_clear) rfl rfl rfl (by decide +kernel) ⟨Nat.le_of_ble_eq_true rfl, Nat.le_of_ble_eq_true rfl⟩) (md_preV hKc hPc hDc []) rfl rfl hl.1 rfl (lv_room (Nat.le_of_ble_eq_true rfl)) dL_law_97 ⟨show 17 + 2 * j + 0 ≤ 1052 by omega, show 2756 + 12 * j + 0 ≤ 11011 by omega⟩) hS (fun q _ h => hFc q h) hFc (fun um t9 H1 locs ht9 hvm hm9 hB hz1 hk1 hS => ?_)
  obtain ⟨hP1, -, hD1⟩ := hB
  rw [ht9] at hP1
  obtain ⟨hP, hD⟩ := va_join (wr := wo ca ad co oa t k v b 0 kd ln 0 0 ins o) (w1 := md cm am 0 t k v 0 0 0 kd ln hd so fq) hP hD [9, 10, 11, 12, 13, 14, 15] [0, 1, 2, 3, 4, 5, 6, 7, 8] rfl rfl (by decide) (by decide) hk1 hFc hP1 hD1
  have hP : va_P (dC, dI) vwCl (lwW ca ad co oa cm am t k v b 0 kd ln 0 0 ins o 0 t k v 0 0 0 kd ln hd so fq) H1 := hP
  have hD : va_D (fun q : Nat => s.heap.size ≤ q) (lwW ca ad co oa cm am t k v b 0 kd ln 0 0 ins o 0 t k v 0 0 0 kd ln hd so fq) := hD
  refine lv_goto (tgt := 635) hx hb dL_law_100 (by decide) ?_
  refine W.widen (k := 19 + 2 * j) (n := 2768 + 12 * j) (show 17 + 2 * j ≤ 19 + 2 * j by omega) (show 2756 + 12 * j ≤ 2768 + 12 * j by omega) ?_
  exact KK t k v b 0 kd ln 0 0 ins o 0 hd so fq (ji_clear t k v b ln) _ _ hP hD hS ls (lv_sub hl [0, 1, 2, 3, 4] rfl)

set_option maxRecDepth 100000 in
set_option maxHeartbeats 8000000 in
/-- the law's arm: window -/
theorem a_window {p : Program} {l : Launch} {e : Env} {s : State} {m : MethodId} {below : List Frame} {meth : Method} {c : Code} {dC : Nat → ClassId} {dI : Nat → Nat → Nat} {bs L : Nat} {xs : Nat → Int32} (hlt : l.stackTraces = false) (hL : L ≤ 2048) (C0 : lw_At p s m meth c bs L xs) {ca : Nat → ClassId} {ad : Nat → Nat} {co : ClassId} {oa : Nat} {cm : Nat → ClassId} {am : Nat → Nat} (hK : va_K (dC, dI) vwCl (lwT ca co cm) s) (hX : xwP (fun q : Nat => s.heap.size ≤ q) s) (j : Nat) (hj : 4 * j + 4 ≤ L) (KK : lw_go p l e s m below meth c dC dI bs ca ad co oa cm am (4 * j) 635 (19 + 2 * j) (2768 + 12 * j)) : lw_go p l e s m below meth c dC dI bs ca ad co oa cm am (4 * j) 103 (17 + 2 * j) (2756 + 12 * j) := by
  intro t k v b n kd ln w nw ins o th hd so fq hji H locs hP hD hS ls hl
  obtain ⟨hx, hb, hr, hml, hown0, hts0, hXs, hbl, hlocks, hgv⟩ := C0
  have hown : s.vm.findClass RL = some m.cls := hown0
  have hts : ∀ w ∈ kL_window :: gt, w.before #[Value.ref bs] s = true := fun w h => hts0 w ((List.mem_cons.mp h).elim (fun e => by rw [e]; exact gt_in _ kwL_window) (fun h => gt_in _ h))
  have hA : ∀ q : Nat, s.heap.size ≤ q → (fun q : Nat => s.heap.size ≤ q) q := fun _ h => h
  have hbA : ¬ (fun q : Nat => s.heap.size ≤ q) bs := Nat.not_le.mpr hbl
  have hin : ∀ k : Nat, k < 4 → vp_in (nI (4 * j + k)) L := fun k hk => vp_in_nI (by omega) (by omega)
  obtain ⟨y0, ey0⟩ : ∃ y : Int32, xs (nI (4 * j)).toNatClampNeg = y := ⟨_, rfl⟩
  obtain ⟨y1, ey1⟩ : ∃ y : Int32, xs (nI (4 * j + 1)).toNatClampNeg = y := ⟨_, rfl⟩
  obtain ⟨y2, ey2⟩ : ∃ y : Int32, xs (nI (4 * j + 2)).toNatClampNeg = y := ⟨_, rfl⟩
  obtain ⟨y3, ey3⟩ : ∃ y : Int32, xs (nI (4 * j + 3)).toNatClampNeg = y := ⟨_, rfl⟩
  obtain ⟨hn, hw6, hk8, hbo, hbs, ht8, hnw, hln⟩ := id hji
  have hbn := pb_lt hbo
  refine lv_aload_n hx hb dL_law_103 rfl (lv_at hl 1 rfl) ?_
  refine lv_aload_n hx hb dL_law_104 rfl (lv_at hl 0 rfl) ?_
  refine lv_iload hx hb dL_law_105 (lv_at hl 4 rfl) ?_
  refine lv_iconst (v := 1) hx hb dL_law_107 (by decide) ?_
  refine lv_iadd hx hb dL_law_108 ?_
  rw [nI_1 (4 * j)]
  refine va_sld hx hb hXs hbl hbA hS (hin 1 (by decide)) dL_law_109 ?_
  rw [ey1]
  refine lv_aload_n hx hb dL_law_110 rfl (lv_at hl 0 rfl) ?_
  refine lv_iload hx hb dL_law_111 (lv_at hl 4 rfl) ?_
  refine lv_iconst (v := 2) hx hb dL_law_113 (by decide) ?_
  refine lv_iadd hx hb dL_law_114 ?_
  rw [yl_2 (4 * j)]
  refine va_sld hx hb hXs hbl hbA hS (hin 2 (by decide)) dL_law_115 ?_
  rw [ey2]
  refine lv_aload_n hx hb dL_law_116 rfl (lv_at hl 3 rfl) ?_
  have hPc := hP.sub (ws' := wo ca ad co oa t k v b n kd ln w nw ins o) [0, 1, 2, 3, 4, 5, 6, 7, 8] rfl
  have hDc := hD.sub (ws' := wo ca ad co oa t k v b n kd ln w nw ins o) [0, 1, 2, 3, 4, 5, 6, 7, 8] (by decide) rfl
  have hKc := hK.sub (tys' := woT ca co) [0, 1, 2, 3, 4, 5, 6, 7] rfl
  have hFc := va_free (wc := wo ca ad co oa t k v b n kd ln w nw ins o) hD hS hA [0, 1, 2, 3, 4, 5, 6, 7, 8] rfl
  refine va_calli (vx_runSW (As := [.ref (ad 0), .int y1, .int y2, .ref oa]) (rest := []) ⟨hx, hb, hml, hown, hts⟩ (c_L_window l hlt dC dI ca ad co oa _ t k v b n kd ln w nw ins o y1 y2 hw6) (vx_cwSW 4 hts (gg_S mlL_54 stL_window in_WindowMetersLaw kwL_window) rfl rfl rfl (by decide +kernel) ⟨Nat.le_of_ble_eq_true rfl, Nat.le_of_ble_eq_true rfl⟩) (lw_preS hKc hPc hDc hS hFc hX [.ref (ad 0), .int y1, .int y2, .ref oa]) rfl rfl hl.1 rfl (lv_room (Nat.le_of_ble_eq_true rfl)) dL_law_117 ⟨show 17 + 2 * j + 1 ≤ 1052 by omega, show 2756 + 12 * j + 6 ≤ 11011 by omega⟩) hS (fun q _ h => hFc q h) hFc (fun r9 u9 t9 H1 locs ht9 hvm hw9 hB hz1 hk1 hS => ?_)
  obtain ⟨hP1, -, hD1⟩ := hB
  rw [ht9] at hP1
  rcases hw9 with ⟨rfl, hg, hw5, rfl⟩ | ⟨rfl, hg, rfl⟩ | ⟨rfl, hg, hw5, rfl⟩
  · obtain ⟨hP, hD⟩ := va_join (wr := md cm am th t k v n nw w kd ln hd so fq) (w1 := wo ca ad co oa t k v b n (upd kd w y1) (upd ln w y2) (w + 1) nw ins (vp_updL o 0 (nI w).toInt64)) hP hD [0, 1, 2, 3, 4, 5, 6, 7, 8] [9, 10, 11, 12, 13, 14, 15] rfl rfl (by decide) (by decide) hk1 hFc hP1 hD1
    have hP := hP.sub (ws' := lwW ca ad co oa cm am t k v b n (upd kd w y1) (upd ln w y2) (w + 1) nw ins (vp_updL o 0 (nI w).toInt64) th t k v n nw w kd ln hd so fq) [7, 8, 9, 10, 11, 12, 13, 14, 15, 0, 1, 2, 3, 4, 5, 6] rfl
    have hD := hD.sub (ws' := lwW ca ad co oa cm am t k v b n (upd kd w y1) (upd ln w y2) (w + 1) nw ins (vp_updL o 0 (nI w).toInt64) th t k v n nw w kd ln hd so fq) [7, 8, 9, 10, 11, 12, 13, 14, 15, 0, 1, 2, 3, 4, 5, 6] (by decide) rfl
    refine lv_istore (lv' := [(5, .int 0), (0, .ref bs), (1, .ref (ad 0)), (2, .ref (am 0)), (3, .ref oa), (4, .int (nI (4 * j)))]) hx hb dL_law_120 hl (by decide) rfl (fun ls hl => ?_)
    refine lv_aload_n hx hb dL_law_122 rfl (lv_at hl 3 rfl) ?_
    refine lv_aload_n hx hb dL_law_123 rfl (lv_at hl 1 rfl) ?_
    refine lv_iload hx hb dL_law_124 (lv_at hl 5 rfl) ?_
    refine lv_iconst (v := 1) hx hb dL_law_126 (by decide) ?_
    refine lv_iadd hx hb dL_law_127 ?_
    rw [nI_1 (4 * j)]
    refine va_sld hx hb hXs hbl hbA hS (hin 1 (by decide)) dL_law_128 ?_
    rw [ey1]
    refine lv_aload_n hx hb dL_law_129 rfl (lv_at hl 1 rfl) ?_
    refine lv_iload hx hb dL_law_130 (lv_at hl 5 rfl) ?_
    refine lv_iconst (v := 2) hx hb dL_law_132 (by decide) ?_
    refine lv_iadd hx hb dL_law_133 ?_
    rw [yl_2 (4 * j)]
    refine va_sld hx hb hXs hbl hbA hS (hin 2 (by decide)) dL_law_134 ?_
    rw [ey2]
    have hPc := hP.sub (ws' := md cm am th t k v n nw w kd ln hd so fq) [9, 10, 11, 12, 13, 14, 15] rfl
    have hDc := hD.sub (ws' := md cm am th t k v n nw w kd ln hd so fq) [9, 10, 11, 12, 13, 14, 15] (by decide) rfl
    have hKc := hK.sub (tys' := mdT cm) [8, 9, 10, 11, 12, 13] rfl
    have hFc := va_free (wc := md cm am th t k v n nw w kd ln hd so fq) hD hS hA [9, 10, 11, 12, 13, 14, 15] rfl
    refine va_calli (va_runV (As := [.int y1, .int y2]) (rest := []) ⟨hx, hb, hml, hown, hts⟩ (m_window l dC dI cm am _ th t k v n nw w kd ln hd so fq y1 y2 hw6) (cwV 2 hts (gg_V mlL_59 imX1_window seX1_window in_WindowMetersModel kwX1_window) rfl rfl rfl (by decide +kernel) ⟨Nat.le_of_ble_eq_true rfl, Nat.le_of_ble_eq_true rfl⟩) (md_preV hKc hPc hDc [.int y1, .int y2]) rfl rfl hl.1 rfl (lv_room (Nat.le_of_ble_eq_true rfl)) dL_law_135 ⟨show 17 + 2 * j + 1 + 0 ≤ 1052 by omega, show 2756 + 12 * j + 6 + 0 ≤ 11011 by omega⟩) hS (fun q _ h => hFc q h) hFc (fun rm um t9 H1 locs ht9 hvm hm9 hB hz1 hk1 hS => ?_)
    obtain ⟨hP1, -, hD1⟩ := hB
    rw [ht9] at hP1
    rcases hm9 with ⟨g1, g2, rfl, hrm⟩ | ⟨g1, rfl⟩ | ⟨g1, g2, rfl⟩
    · obtain ⟨hP, hD⟩ := va_join (wr := wo ca ad co oa t k v b n (upd kd w y1) (upd ln w y2) (w + 1) nw ins (vp_updL o 0 (nI w).toInt64)) (w1 := md cm am 0 t k v n nw (w + 1) (upd kd w y1) (upd ln w y2) hd so fq) hP hD [9, 10, 11, 12, 13, 14, 15] [0, 1, 2, 3, 4, 5, 6, 7, 8] rfl rfl (by decide) (by decide) hk1 hFc hP1 hD1
      have hP : va_P (dC, dI) vwCl (lwW ca ad co oa cm am t k v b n (upd kd w y1) (upd ln w y2) (w + 1) nw ins (vp_updL o 0 (nI w).toInt64) 0 t k v n nw (w + 1) (upd kd w y1) (upd ln w y2) hd so fq) H1 := hP
      have hD : va_D (fun q : Nat => s.heap.size ≤ q) (lwW ca ad co oa cm am t k v b n (upd kd w y1) (upd ln w y2) (w + 1) nw ins (vp_updL o 0 (nI w).toInt64) 0 t k v n nw (w + 1) (upd kd w y1) (upd ln w y2) hd so fq) := hD
      refine lv_istore (lv' := [(6, .int rm), (5, .int 0), (0, .ref bs), (1, .ref (ad 0)), (2, .ref (am 0)), (3, .ref oa), (4, .int (nI (4 * j)))]) hx hb dL_law_138 hl (by decide) rfl (fun ls hl => ?_)
      refine lv_aload_n hx hb dL_law_140 rfl (lv_at hl 4 rfl) ?_
      have hPc := hP.sub (ws' := md cm am 0 t k v n nw (w + 1) (upd kd w y1) (upd ln w y2) hd so fq) [9, 10, 11, 12, 13, 14, 15] rfl
      have hDc := hD.sub (ws' := md cm am 0 t k v n nw (w + 1) (upd kd w y1) (upd ln w y2) hd so fq) [9, 10, 11, 12, 13, 14, 15] (by decide) rfl
      have hKc := hK.sub (tys' := mdT cm) [8, 9, 10, 11, 12, 13] rfl
      refine vp_callSi (W.runV (As := []) (rest := []) ⟨hx, hb, hml, hown, hts⟩ (m_thrown l dC dI cm am _ 0 t k v n nw (w + 1) (upd kd w y1) (upd ln w y2) hd so fq) (cwV 0 hts (gg_V mlL_60 imX1_thrown seX1_thrown in_WindowMetersModel kwX1_thrown) rfl rfl rfl (by decide +kernel) ⟨Nat.le_of_ble_eq_true rfl, Nat.le_of_ble_eq_true rfl⟩) (md_preV hKc hPc hDc []) rfl rfl hl.1 rfl (lv_room (Nat.le_of_ble_eq_true rfl)) dL_law_141 ⟨show 17 + 2 * j + 1 + 0 ≤ 1052 by omega, show 2756 + 12 * j + 6 + 0 ≤ 11011 by omega⟩) (fun rt hrt => ?_)
      obtain rfl : rt = 0 := hrt
      refine lv_iload hx hb dL_law_144 (lv_at hl 1 rfl) ?_
      refine lv_icmp_eq (tgt := 151) hx hb dL_law_146 (by decide) (fun c_1 => ?_) (fun c_1 => ?_)
      · refine lv_iload hx hb dL_law_151 (lv_at hl 1 rfl) ?_
        refine lv_if_ne (tgt := 168) hx hb dL_law_153 (by decide) (fun c_2 => ?_) (fun c_2 => ?_)
        · first | exact absurd rfl c_2 | exact absurd c_2 (by decide)
        · refine lv_aload_n hx hb dL_law_156 rfl (lv_at hl 5 rfl) ?_
          refine lv_iconst (v := 0) hx hb dL_law_157 (by decide) ?_
          refine va_lald hx hb hK hP 8 7 rfl rfl yo_in dL_law_158 ?_
          refine lv_iload hx hb dL_law_159 (lv_at hl 0 rfl) ?_
          refine lv_i2l (v := rm.toInt64) hx hb dL_law_161 rfl ?_
          refine yo_lcmp (by rw [yl_get, hrm]) hx hb dL_law_162 ?_
          refine lv_if_eq (tgt := 168) hx hb dL_law_163 (by decide) (fun c_3 => ?_) (fun c_3 => ?_)
          · refine lv_goto (tgt := 635) hx hb dL_law_168 (by decide) ?_
            refine W.widen (k := 19 + 2 * j) (n := 2768 + 12 * j) (show 17 + 2 * j + 1 ≤ 19 + 2 * j by omega) (show 2756 + 12 * j + 6 ≤ 2768 + 12 * j by omega) ?_
            exact KK t k v b n (upd kd w y1) (upd ln w y2) (w + 1) nw ins (vp_updL o 0 (nI w).toInt64) 0 hd so fq (ji_window hji hw5 hg.2) _ _ hP hD hS ls (lv_sub hl [2, 3, 4, 5, 6] rfl)
          · first | exact absurd rfl c_3 | exact absurd c_3 (by decide)
      · first | exact absurd rfl c_1 | exact absurd c_1 (by decide)
    · exact absurd hg g1
    · exact absurd hw5 (by omega)
  · obtain ⟨hP, hD⟩ := va_join (wr := md cm am th t k v n nw w kd ln hd so fq) (w1 := wo ca ad co oa t k v b n kd ln w nw ins o) hP hD [0, 1, 2, 3, 4, 5, 6, 7, 8] [9, 10, 11, 12, 13, 14, 15] rfl rfl (by decide) (by decide) hk1 hFc hP1 hD1
    have hP := hP.sub (ws' := lwW ca ad co oa cm am t k v b n kd ln w nw ins o th t k v n nw w kd ln hd so fq) [7, 8, 9, 10, 11, 12, 13, 14, 15, 0, 1, 2, 3, 4, 5, 6] rfl
    have hD := hD.sub (ws' := lwW ca ad co oa cm am t k v b n kd ln w nw ins o th t k v n nw w kd ln hd so fq) [7, 8, 9, 10, 11, 12, 13, 14, 15, 0, 1, 2, 3, 4, 5, 6] (by decide) rfl
    refine lv_istore (lv' := [(5, .int 1), (0, .ref bs), (1, .ref (ad 0)), (2, .ref (am 0)), (3, .ref oa), (4, .int (nI (4 * j)))]) hx hb dL_law_120 hl (by decide) rfl (fun ls hl => ?_)
    refine lv_aload_n hx hb dL_law_122 rfl (lv_at hl 3 rfl) ?_
    refine lv_aload_n hx hb dL_law_123 rfl (lv_at hl 1 rfl) ?_
    refine lv_iload hx hb dL_law_124 (lv_at hl 5 rfl) ?_
    refine lv_iconst (v := 1) hx hb dL_law_126 (by decide) ?_
    refine lv_iadd hx hb dL_law_127 ?_
    rw [nI_1 (4 * j)]
    refine va_sld hx hb hXs hbl hbA hS (hin 1 (by decide)) dL_law_128 ?_
    rw [ey1]
    refine lv_aload_n hx hb dL_law_129 rfl (lv_at hl 1 rfl) ?_
    refine lv_iload hx hb dL_law_130 (lv_at hl 5 rfl) ?_
    refine lv_iconst (v := 2) hx hb dL_law_132 (by decide) ?_
    refine lv_iadd hx hb dL_law_133 ?_
    rw [yl_2 (4 * j)]
    refine va_sld hx hb hXs hbl hbA hS (hin 2 (by decide)) dL_law_134 ?_
    rw [ey2]
    have hPc := hP.sub (ws' := md cm am th t k v n nw w kd ln hd so fq) [9, 10, 11, 12, 13, 14, 15] rfl
    have hDc := hD.sub (ws' := md cm am th t k v n nw w kd ln hd so fq) [9, 10, 11, 12, 13, 14, 15] (by decide) rfl
    have hKc := hK.sub (tys' := mdT cm) [8, 9, 10, 11, 12, 13] rfl
    have hFc := va_free (wc := md cm am th t k v n nw w kd ln hd so fq) hD hS hA [9, 10, 11, 12, 13, 14, 15] rfl
    refine va_calli (va_runV (As := [.int y1, .int y2]) (rest := []) ⟨hx, hb, hml, hown, hts⟩ (m_window l dC dI cm am _ th t k v n nw w kd ln hd so fq y1 y2 hw6) (cwV 2 hts (gg_V mlL_59 imX1_window seX1_window in_WindowMetersModel kwX1_window) rfl rfl rfl (by decide +kernel) ⟨Nat.le_of_ble_eq_true rfl, Nat.le_of_ble_eq_true rfl⟩) (md_preV hKc hPc hDc [.int y1, .int y2]) rfl rfl hl.1 rfl (lv_room (Nat.le_of_ble_eq_true rfl)) dL_law_135 ⟨show 17 + 2 * j + 1 + 0 ≤ 1052 by omega, show 2756 + 12 * j + 6 + 0 ≤ 11011 by omega⟩) hS (fun q _ h => hFc q h) hFc (fun rm um t9 H1 locs ht9 hvm hm9 hB hz1 hk1 hS => ?_)
    obtain ⟨hP1, -, hD1⟩ := hB
    rw [ht9] at hP1
    rcases hm9 with ⟨g1, g2, rfl, hrm⟩ | ⟨g1, rfl⟩ | ⟨g1, g2, rfl⟩
    · exact absurd g1 hg
    · obtain ⟨hP, hD⟩ := va_join (wr := wo ca ad co oa t k v b n kd ln w nw ins o) (w1 := md cm am 1 t k v n nw w kd ln hd so fq) hP hD [9, 10, 11, 12, 13, 14, 15] [0, 1, 2, 3, 4, 5, 6, 7, 8] rfl rfl (by decide) (by decide) hk1 hFc hP1 hD1
      have hP : va_P (dC, dI) vwCl (lwW ca ad co oa cm am t k v b n kd ln w nw ins o 1 t k v n nw w kd ln hd so fq) H1 := hP
      have hD : va_D (fun q : Nat => s.heap.size ≤ q) (lwW ca ad co oa cm am t k v b n kd ln w nw ins o 1 t k v n nw w kd ln hd so fq) := hD
      refine lv_istore (lv' := [(6, .int rm), (5, .int 1), (0, .ref bs), (1, .ref (ad 0)), (2, .ref (am 0)), (3, .ref oa), (4, .int (nI (4 * j)))]) hx hb dL_law_138 hl (by decide) rfl (fun ls hl => ?_)
      refine lv_aload_n hx hb dL_law_140 rfl (lv_at hl 4 rfl) ?_
      have hPc := hP.sub (ws' := md cm am 1 t k v n nw w kd ln hd so fq) [9, 10, 11, 12, 13, 14, 15] rfl
      have hDc := hD.sub (ws' := md cm am 1 t k v n nw w kd ln hd so fq) [9, 10, 11, 12, 13, 14, 15] (by decide) rfl
      have hKc := hK.sub (tys' := mdT cm) [8, 9, 10, 11, 12, 13] rfl
      refine vp_callSi (W.runV (As := []) (rest := []) ⟨hx, hb, hml, hown, hts⟩ (m_thrown l dC dI cm am _ 1 t k v n nw w kd ln hd so fq) (cwV 0 hts (gg_V mlL_60 imX1_thrown seX1_thrown in_WindowMetersModel kwX1_thrown) rfl rfl rfl (by decide +kernel) ⟨Nat.le_of_ble_eq_true rfl, Nat.le_of_ble_eq_true rfl⟩) (md_preV hKc hPc hDc []) rfl rfl hl.1 rfl (lv_room (Nat.le_of_ble_eq_true rfl)) dL_law_141 ⟨show 17 + 2 * j + 1 + 0 ≤ 1052 by omega, show 2756 + 12 * j + 6 + 0 ≤ 11011 by omega⟩) (fun rt hrt => ?_)
      obtain rfl : rt = 1 := hrt
      refine lv_iload hx hb dL_law_144 (lv_at hl 1 rfl) ?_
      refine lv_icmp_eq (tgt := 151) hx hb dL_law_146 (by decide) (fun c_4 => ?_) (fun c_4 => ?_)
      · refine lv_iload hx hb dL_law_151 (lv_at hl 1 rfl) ?_
        refine lv_if_ne (tgt := 168) hx hb dL_law_153 (by decide) (fun c_5 => ?_) (fun c_5 => ?_)
        · refine lv_goto (tgt := 635) hx hb dL_law_168 (by decide) ?_
          refine W.widen (k := 19 + 2 * j) (n := 2768 + 12 * j) (show 17 + 2 * j + 1 ≤ 19 + 2 * j by omega) (show 2756 + 12 * j + 6 ≤ 2768 + 12 * j by omega) ?_
          exact KK t k v b n kd ln w nw ins o 1 hd so fq hji _ _ hP hD hS ls (lv_sub hl [2, 3, 4, 5, 6] rfl)
        · first | exact absurd rfl c_5 | exact absurd c_5 (by decide)
      · first | exact absurd rfl c_4 | exact absurd c_4 (by decide)
    · exact absurd g1 hg
  · obtain ⟨hP, hD⟩ := va_join (wr := md cm am th t k v n nw w kd ln hd so fq) (w1 := wo ca ad co oa t k v b n kd ln w nw ins o) hP hD [0, 1, 2, 3, 4, 5, 6, 7, 8] [9, 10, 11, 12, 13, 14, 15] rfl rfl (by decide) (by decide) hk1 hFc hP1 hD1
    have hP := hP.sub (ws' := lwW ca ad co oa cm am t k v b n kd ln w nw ins o th t k v n nw w kd ln hd so fq) [7, 8, 9, 10, 11, 12, 13, 14, 15, 0, 1, 2, 3, 4, 5, 6] rfl
    have hD := hD.sub (ws' := lwW ca ad co oa cm am t k v b n kd ln w nw ins o th t k v n nw w kd ln hd so fq) [7, 8, 9, 10, 11, 12, 13, 14, 15, 0, 1, 2, 3, 4, 5, 6] (by decide) rfl
    refine lv_istore (lv' := [(5, .int 2), (0, .ref bs), (1, .ref (ad 0)), (2, .ref (am 0)), (3, .ref oa), (4, .int (nI (4 * j)))]) hx hb dL_law_120 hl (by decide) rfl (fun ls hl => ?_)
    refine lv_aload_n hx hb dL_law_122 rfl (lv_at hl 3 rfl) ?_
    refine lv_aload_n hx hb dL_law_123 rfl (lv_at hl 1 rfl) ?_
    refine lv_iload hx hb dL_law_124 (lv_at hl 5 rfl) ?_
    refine lv_iconst (v := 1) hx hb dL_law_126 (by decide) ?_
    refine lv_iadd hx hb dL_law_127 ?_
    rw [nI_1 (4 * j)]
    refine va_sld hx hb hXs hbl hbA hS (hin 1 (by decide)) dL_law_128 ?_
    rw [ey1]
    refine lv_aload_n hx hb dL_law_129 rfl (lv_at hl 1 rfl) ?_
    refine lv_iload hx hb dL_law_130 (lv_at hl 5 rfl) ?_
    refine lv_iconst (v := 2) hx hb dL_law_132 (by decide) ?_
    refine lv_iadd hx hb dL_law_133 ?_
    rw [yl_2 (4 * j)]
    refine va_sld hx hb hXs hbl hbA hS (hin 2 (by decide)) dL_law_134 ?_
    rw [ey2]
    have hPc := hP.sub (ws' := md cm am th t k v n nw w kd ln hd so fq) [9, 10, 11, 12, 13, 14, 15] rfl
    have hDc := hD.sub (ws' := md cm am th t k v n nw w kd ln hd so fq) [9, 10, 11, 12, 13, 14, 15] (by decide) rfl
    have hKc := hK.sub (tys' := mdT cm) [8, 9, 10, 11, 12, 13] rfl
    have hFc := va_free (wc := md cm am th t k v n nw w kd ln hd so fq) hD hS hA [9, 10, 11, 12, 13, 14, 15] rfl
    refine va_calli (va_runV (As := [.int y1, .int y2]) (rest := []) ⟨hx, hb, hml, hown, hts⟩ (m_window l dC dI cm am _ th t k v n nw w kd ln hd so fq y1 y2 hw6) (cwV 2 hts (gg_V mlL_59 imX1_window seX1_window in_WindowMetersModel kwX1_window) rfl rfl rfl (by decide +kernel) ⟨Nat.le_of_ble_eq_true rfl, Nat.le_of_ble_eq_true rfl⟩) (md_preV hKc hPc hDc [.int y1, .int y2]) rfl rfl hl.1 rfl (lv_room (Nat.le_of_ble_eq_true rfl)) dL_law_135 ⟨show 17 + 2 * j + 1 + 0 ≤ 1052 by omega, show 2756 + 12 * j + 6 + 0 ≤ 11011 by omega⟩) hS (fun q _ h => hFc q h) hFc (fun rm um t9 H1 locs ht9 hvm hm9 hB hz1 hk1 hS => ?_)
    obtain ⟨hP1, -, hD1⟩ := hB
    rw [ht9] at hP1
    rcases hm9 with ⟨g1, g2, rfl, hrm⟩ | ⟨g1, rfl⟩ | ⟨g1, g2, rfl⟩
    · exact absurd g2 (by omega)
    · exact absurd hg g1
    · obtain ⟨hP, hD⟩ := va_join (wr := wo ca ad co oa t k v b n kd ln w nw ins o) (w1 := md cm am 2 t k v n nw w kd ln hd so fq) hP hD [9, 10, 11, 12, 13, 14, 15] [0, 1, 2, 3, 4, 5, 6, 7, 8] rfl rfl (by decide) (by decide) hk1 hFc hP1 hD1
      have hP : va_P (dC, dI) vwCl (lwW ca ad co oa cm am t k v b n kd ln w nw ins o 2 t k v n nw w kd ln hd so fq) H1 := hP
      have hD : va_D (fun q : Nat => s.heap.size ≤ q) (lwW ca ad co oa cm am t k v b n kd ln w nw ins o 2 t k v n nw w kd ln hd so fq) := hD
      refine lv_istore (lv' := [(6, .int rm), (5, .int 2), (0, .ref bs), (1, .ref (ad 0)), (2, .ref (am 0)), (3, .ref oa), (4, .int (nI (4 * j)))]) hx hb dL_law_138 hl (by decide) rfl (fun ls hl => ?_)
      refine lv_aload_n hx hb dL_law_140 rfl (lv_at hl 4 rfl) ?_
      have hPc := hP.sub (ws' := md cm am 2 t k v n nw w kd ln hd so fq) [9, 10, 11, 12, 13, 14, 15] rfl
      have hDc := hD.sub (ws' := md cm am 2 t k v n nw w kd ln hd so fq) [9, 10, 11, 12, 13, 14, 15] (by decide) rfl
      have hKc := hK.sub (tys' := mdT cm) [8, 9, 10, 11, 12, 13] rfl
      refine vp_callSi (W.runV (As := []) (rest := []) ⟨hx, hb, hml, hown, hts⟩ (m_thrown l dC dI cm am _ 2 t k v n nw w kd ln hd so fq) (cwV 0 hts (gg_V mlL_60 imX1_thrown seX1_thrown in_WindowMetersModel kwX1_thrown) rfl rfl rfl (by decide +kernel) ⟨Nat.le_of_ble_eq_true rfl, Nat.le_of_ble_eq_true rfl⟩) (md_preV hKc hPc hDc []) rfl rfl hl.1 rfl (lv_room (Nat.le_of_ble_eq_true rfl)) dL_law_141 ⟨show 17 + 2 * j + 1 + 0 ≤ 1052 by omega, show 2756 + 12 * j + 6 + 0 ≤ 11011 by omega⟩) (fun rt hrt => ?_)
      obtain rfl : rt = 2 := hrt
      refine lv_iload hx hb dL_law_144 (lv_at hl 1 rfl) ?_
      refine lv_icmp_eq (tgt := 151) hx hb dL_law_146 (by decide) (fun c_6 => ?_) (fun c_6 => ?_)
      · refine lv_iload hx hb dL_law_151 (lv_at hl 1 rfl) ?_
        refine lv_if_ne (tgt := 168) hx hb dL_law_153 (by decide) (fun c_7 => ?_) (fun c_7 => ?_)
        · refine lv_goto (tgt := 635) hx hb dL_law_168 (by decide) ?_
          refine W.widen (k := 19 + 2 * j) (n := 2768 + 12 * j) (show 17 + 2 * j + 1 ≤ 19 + 2 * j by omega) (show 2756 + 12 * j + 6 ≤ 2768 + 12 * j by omega) ?_
          exact KK t k v b n kd ln w nw ins o 2 hd so fq hji _ _ hP hD hS ls (lv_sub hl [2, 3, 4, 5, 6] rfl)
        · first | exact absurd rfl c_7 | exact absurd c_7 (by decide)
      · first | exact absurd rfl c_6 | exact absurd c_6 (by decide)

set_option maxRecDepth 100000 in
set_option maxHeartbeats 8000000 in
/-- the law's arm: tuple -/
theorem a_tuple {p : Program} {l : Launch} {e : Env} {s : State} {m : MethodId} {below : List Frame} {meth : Method} {c : Code} {dC : Nat → ClassId} {dI : Nat → Nat → Nat} {bs L : Nat} {xs : Nat → Int32} (hlt : l.stackTraces = false) (hL : L ≤ 2048) (C0 : lw_At p s m meth c bs L xs) {ca : Nat → ClassId} {ad : Nat → Nat} {co : ClassId} {oa : Nat} {cm : Nat → ClassId} {am : Nat → Nat} (hK : va_K (dC, dI) vwCl (lwT ca co cm) s) (hX : xwP (fun q : Nat => s.heap.size ≤ q) s) (j : Nat) (hj : 4 * j + 4 ≤ L) (KK : lw_go p l e s m below meth c dC dI bs ca ad co oa cm am (4 * j) 635 (19 + 2 * j) (2768 + 12 * j)) : lw_go p l e s m below meth c dC dI bs ca ad co oa cm am (4 * j) 171 (17 + 2 * j) (2756 + 12 * j) := by
  intro t k v b n kd ln w nw ins o th hd so fq hji H locs hP hD hS ls hl
  obtain ⟨hx, hb, hr, hml, hown0, hts0, hXs, hbl, hlocks, hgv⟩ := C0
  have hown : s.vm.findClass RL = some m.cls := hown0
  have hts : ∀ w ∈ kL_window :: gt, w.before #[Value.ref bs] s = true := fun w h => hts0 w ((List.mem_cons.mp h).elim (fun e => by rw [e]; exact gt_in _ kwL_window) (fun h => gt_in _ h))
  have hA : ∀ q : Nat, s.heap.size ≤ q → (fun q : Nat => s.heap.size ≤ q) q := fun _ h => h
  have hbA : ¬ (fun q : Nat => s.heap.size ≤ q) bs := Nat.not_le.mpr hbl
  have hin : ∀ k : Nat, k < 4 → vp_in (nI (4 * j + k)) L := fun k hk => vp_in_nI (by omega) (by omega)
  obtain ⟨y0, ey0⟩ : ∃ y : Int32, xs (nI (4 * j)).toNatClampNeg = y := ⟨_, rfl⟩
  obtain ⟨y1, ey1⟩ : ∃ y : Int32, xs (nI (4 * j + 1)).toNatClampNeg = y := ⟨_, rfl⟩
  obtain ⟨y2, ey2⟩ : ∃ y : Int32, xs (nI (4 * j + 2)).toNatClampNeg = y := ⟨_, rfl⟩
  obtain ⟨y3, ey3⟩ : ∃ y : Int32, xs (nI (4 * j + 3)).toNatClampNeg = y := ⟨_, rfl⟩
  obtain ⟨hn, hw6, hk8, hbo, hbs, ht8, hnw, hln⟩ := id hji
  have hbn := pb_lt hbo
  refine lv_aload_n hx hb dL_law_171 rfl (lv_at hl 1 rfl) ?_
  refine lv_aload_n hx hb dL_law_172 rfl (lv_at hl 0 rfl) ?_
  refine lv_iload hx hb dL_law_173 (lv_at hl 4 rfl) ?_
  refine lv_iconst (v := 1) hx hb dL_law_175 (by decide) ?_
  refine lv_iadd hx hb dL_law_176 ?_
  rw [nI_1 (4 * j)]
  refine va_sld hx hb hXs hbl hbA hS (hin 1 (by decide)) dL_law_177 ?_
  rw [ey1]
  refine lv_aload_n hx hb dL_law_178 rfl (lv_at hl 0 rfl) ?_
  refine lv_iload hx hb dL_law_179 (lv_at hl 4 rfl) ?_
  refine lv_iconst (v := 2) hx hb dL_law_181 (by decide) ?_
  refine lv_iadd hx hb dL_law_182 ?_
  rw [yl_2 (4 * j)]
  refine va_sld hx hb hXs hbl hbA hS (hin 2 (by decide)) dL_law_183 ?_
  rw [ey2]
  refine lv_aload_n hx hb dL_law_184 rfl (lv_at hl 0 rfl) ?_
  refine lv_iload hx hb dL_law_185 (lv_at hl 4 rfl) ?_
  refine lv_iconst (v := 3) hx hb dL_law_187 (by decide) ?_
  refine lv_iadd hx hb dL_law_188 ?_
  rw [yl_3 (4 * j)]
  refine va_sld hx hb hXs hbl hbA hS (hin 3 (by decide)) dL_law_189 ?_
  rw [ey3]
  refine lv_aload_n hx hb dL_law_190 rfl (lv_at hl 3 rfl) ?_
  have hPc := hP.sub (ws' := wo ca ad co oa t k v b n kd ln w nw ins o) [0, 1, 2, 3, 4, 5, 6, 7, 8] rfl
  have hDc := hD.sub (ws' := wo ca ad co oa t k v b n kd ln w nw ins o) [0, 1, 2, 3, 4, 5, 6, 7, 8] (by decide) rfl
  have hKc := hK.sub (tys' := woT ca co) [0, 1, 2, 3, 4, 5, 6, 7] rfl
  have hFc := va_free (wc := wo ca ad co oa t k v b n kd ln w nw ins o) hD hS hA [0, 1, 2, 3, 4, 5, 6, 7, 8] rfl
  refine va_calli (vx_runSW (As := [.ref (ad 0), .int y1, .int y2, .int y3, .ref oa]) (rest := []) ⟨hx, hb, hml, hown, hts⟩ (c_L_tuple l hlt dC dI ca ad co oa _ t k v b n kd ln w nw ins o y1 y2 y3 hn) (vx_cwSW 5 hts (gg_S mlL_64 stL_tuple in_WindowMetersLaw kwL_tuple) rfl rfl rfl (by decide +kernel) ⟨Nat.le_of_ble_eq_true rfl, Nat.le_of_ble_eq_true rfl⟩) (lw_preS hKc hPc hDc hS hFc hX [.ref (ad 0), .int y1, .int y2, .int y3, .ref oa]) rfl rfl hl.1 rfl (lv_room (Nat.le_of_ble_eq_true rfl)) dL_law_191 ⟨show 17 + 2 * j + 1 ≤ 1052 by omega, show 2756 + 12 * j + 6 ≤ 11011 by omega⟩) hS (fun q _ h => hFc q h) hFc (fun r9 u9 t9 H1 locs ht9 hvm hw9 hB hz1 hk1 hS => ?_)
  obtain ⟨hP1, -, hD1⟩ := hB
  rw [ht9] at hP1
  rcases hw9 with ⟨rfl, hg, hn3, kk, b9, hkk, hp2, hins, rfl⟩ | ⟨rfl, hg, rfl⟩ | ⟨rfl, hg, hn3, rfl⟩
  · obtain ⟨hP, hD⟩ := va_join (wr := md cm am th t k v n nw w kd ln hd so fq) (w1 := wo ca ad co oa (upd t n y1) (vu k n kk) (upd v n y3) b9 (n + 1) kd ln w y1 ins (vp_updL o 0 (nI (n + 1)).toInt64)) hP hD [0, 1, 2, 3, 4, 5, 6, 7, 8] [9, 10, 11, 12, 13, 14, 15] rfl rfl (by decide) (by decide) hk1 hFc hP1 hD1
    have hP := hP.sub (ws' := lwW ca ad co oa cm am (upd t n y1) (vu k n kk) (upd v n y3) b9 (n + 1) kd ln w y1 ins (vp_updL o 0 (nI (n + 1)).toInt64) th t k v n nw w kd ln hd so fq) [7, 8, 9, 10, 11, 12, 13, 14, 15, 0, 1, 2, 3, 4, 5, 6] rfl
    have hD := hD.sub (ws' := lwW ca ad co oa cm am (upd t n y1) (vu k n kk) (upd v n y3) b9 (n + 1) kd ln w y1 ins (vp_updL o 0 (nI (n + 1)).toInt64) th t k v n nw w kd ln hd so fq) [7, 8, 9, 10, 11, 12, 13, 14, 15, 0, 1, 2, 3, 4, 5, 6] (by decide) rfl
    refine lv_istore (lv' := [(5, .int 0), (0, .ref bs), (1, .ref (ad 0)), (2, .ref (am 0)), (3, .ref oa), (4, .int (nI (4 * j)))]) hx hb dL_law_194 hl (by decide) rfl (fun ls hl => ?_)
    refine lv_aload_n hx hb dL_law_196 rfl (lv_at hl 3 rfl) ?_
    refine lv_aload_n hx hb dL_law_197 rfl (lv_at hl 1 rfl) ?_
    refine lv_iload hx hb dL_law_198 (lv_at hl 5 rfl) ?_
    refine lv_iconst (v := 1) hx hb dL_law_200 (by decide) ?_
    refine lv_iadd hx hb dL_law_201 ?_
    rw [nI_1 (4 * j)]
    refine va_sld hx hb hXs hbl hbA hS (hin 1 (by decide)) dL_law_202 ?_
    rw [ey1]
    refine lv_aload_n hx hb dL_law_203 rfl (lv_at hl 1 rfl) ?_
    refine lv_iload hx hb dL_law_204 (lv_at hl 5 rfl) ?_
    refine lv_iconst (v := 2) hx hb dL_law_206 (by decide) ?_
    refine lv_iadd hx hb dL_law_207 ?_
    rw [yl_2 (4 * j)]
    refine va_sld hx hb hXs hbl hbA hS (hin 2 (by decide)) dL_law_208 ?_
    rw [ey2]
    refine lv_aload_n hx hb dL_law_209 rfl (lv_at hl 1 rfl) ?_
    refine lv_iload hx hb dL_law_210 (lv_at hl 5 rfl) ?_
    refine lv_iconst (v := 3) hx hb dL_law_212 (by decide) ?_
    refine lv_iadd hx hb dL_law_213 ?_
    rw [yl_3 (4 * j)]
    refine va_sld hx hb hXs hbl hbA hS (hin 3 (by decide)) dL_law_214 ?_
    rw [ey3]
    have hPc := hP.sub (ws' := md cm am th t k v n nw w kd ln hd so fq) [9, 10, 11, 12, 13, 14, 15] rfl
    have hDc := hD.sub (ws' := md cm am th t k v n nw w kd ln hd so fq) [9, 10, 11, 12, 13, 14, 15] (by decide) rfl
    have hKc := hK.sub (tys' := mdT cm) [8, 9, 10, 11, 12, 13] rfl
    have hFc := va_free (wc := md cm am th t k v n nw w kd ln hd so fq) hD hS hA [9, 10, 11, 12, 13, 14, 15] rfl
    refine va_calli (va_runV (As := [.int y1, .int y2, .int y3]) (rest := []) ⟨hx, hb, hml, hown, hts⟩ (m_tuple l dC dI cm am _ th t k v n nw w kd ln hd so fq y1 y2 y3 hn) (cwV 3 hts (gg_V mlL_67 imX1_tuple seX1_tuple in_WindowMetersModel kwX1_tuple) rfl rfl rfl (by decide +kernel) ⟨Nat.le_of_ble_eq_true rfl, Nat.le_of_ble_eq_true rfl⟩) (md_preV hKc hPc hDc [.int y1, .int y2, .int y3]) rfl rfl hl.1 rfl (lv_room (Nat.le_of_ble_eq_true rfl)) dL_law_215 ⟨show 17 + 2 * j + 1 + 0 ≤ 1052 by omega, show 2756 + 12 * j + 6 + 0 ≤ 11011 by omega⟩) hS (fun q _ h => hFc q h) hFc (fun rm um t9 H1 locs ht9 hvm hm9 hB hz1 hk1 hS => ?_)
    obtain ⟨hP1, -, hD1⟩ := hB
    rw [ht9] at hP1
    rcases hm9 with ⟨g1, g2, ⟨k2, hk2, hp3, rfl⟩, hrm⟩ | ⟨g1, rfl⟩ | ⟨g1, g2, rfl⟩
    · have hkk2 : k2 = kk := nI_inj (by omega) (by omega) (hp3.symm.trans hp2)
      rw [hkk2] at hP1 hD1
      obtain ⟨hP, hD⟩ := va_join (wr := wo ca ad co oa (upd t n y1) (vu k n kk) (upd v n y3) b9 (n + 1) kd ln w y1 ins (vp_updL o 0 (nI (n + 1)).toInt64)) (w1 := md cm am 0 (upd t n y1) (vu k n kk) (upd v n y3) (n + 1) y1 w kd ln hd so fq) hP hD [9, 10, 11, 12, 13, 14, 15] [0, 1, 2, 3, 4, 5, 6, 7, 8] rfl rfl (by decide) (by decide) hk1 hFc hP1 hD1
      have hP : va_P (dC, dI) vwCl (lwW ca ad co oa cm am (upd t n y1) (vu k n kk) (upd v n y3) b9 (n + 1) kd ln w y1 ins (vp_updL o 0 (nI (n + 1)).toInt64) 0 (upd t n y1) (vu k n kk) (upd v n y3) (n + 1) y1 w kd ln hd so fq) H1 := hP
      have hD : va_D (fun q : Nat => s.heap.size ≤ q) (lwW ca ad co oa cm am (upd t n y1) (vu k n kk) (upd v n y3) b9 (n + 1) kd ln w y1 ins (vp_updL o 0 (nI (n + 1)).toInt64) 0 (upd t n y1) (vu k n kk) (upd v n y3) (n + 1) y1 w kd ln hd so fq) := hD
      refine lv_istore (lv' := [(6, .int rm), (5, .int 0), (0, .ref bs), (1, .ref (ad 0)), (2, .ref (am 0)), (3, .ref oa), (4, .int (nI (4 * j)))]) hx hb dL_law_218 hl (by decide) rfl (fun ls hl => ?_)
      refine lv_aload_n hx hb dL_law_220 rfl (lv_at hl 4 rfl) ?_
      have hPc := hP.sub (ws' := md cm am 0 (upd t n y1) (vu k n kk) (upd v n y3) (n + 1) y1 w kd ln hd so fq) [9, 10, 11, 12, 13, 14, 15] rfl
      have hDc := hD.sub (ws' := md cm am 0 (upd t n y1) (vu k n kk) (upd v n y3) (n + 1) y1 w kd ln hd so fq) [9, 10, 11, 12, 13, 14, 15] (by decide) rfl
      have hKc := hK.sub (tys' := mdT cm) [8, 9, 10, 11, 12, 13] rfl
      refine vp_callSi (W.runV (As := []) (rest := []) ⟨hx, hb, hml, hown, hts⟩ (m_thrown l dC dI cm am _ 0 (upd t n y1) (vu k n kk) (upd v n y3) (n + 1) y1 w kd ln hd so fq) (cwV 0 hts (gg_V mlL_60 imX1_thrown seX1_thrown in_WindowMetersModel kwX1_thrown) rfl rfl rfl (by decide +kernel) ⟨Nat.le_of_ble_eq_true rfl, Nat.le_of_ble_eq_true rfl⟩) (md_preV hKc hPc hDc []) rfl rfl hl.1 rfl (lv_room (Nat.le_of_ble_eq_true rfl)) dL_law_221 ⟨show 17 + 2 * j + 1 + 0 ≤ 1052 by omega, show 2756 + 12 * j + 6 + 0 ≤ 11011 by omega⟩) (fun rt hrt => ?_)
      obtain rfl : rt = 0 := hrt
      refine lv_iload hx hb dL_law_224 (lv_at hl 1 rfl) ?_
      refine lv_icmp_eq (tgt := 231) hx hb dL_law_226 (by decide) (fun c_1 => ?_) (fun c_1 => ?_)
      · refine lv_iload hx hb dL_law_231 (lv_at hl 1 rfl) ?_
        refine lv_if_ne (tgt := 248) hx hb dL_law_233 (by decide) (fun c_2 => ?_) (fun c_2 => ?_)
        · first | exact absurd rfl c_2 | exact absurd c_2 (by decide)
        · refine lv_aload_n hx hb dL_law_236 rfl (lv_at hl 5 rfl) ?_
          refine lv_iconst (v := 0) hx hb dL_law_237 (by decide) ?_
          refine va_lald hx hb hK hP 8 7 rfl rfl yo_in dL_law_238 ?_
          refine lv_iload hx hb dL_law_239 (lv_at hl 0 rfl) ?_
          refine lv_i2l (v := rm.toInt64) hx hb dL_law_241 rfl ?_
          refine yo_lcmp (by rw [yl_get, hrm]) hx hb dL_law_242 ?_
          refine lv_if_eq (tgt := 248) hx hb dL_law_243 (by decide) (fun c_3 => ?_) (fun c_3 => ?_)
          · refine lv_goto (tgt := 635) hx hb dL_law_248 (by decide) ?_
            refine W.widen (k := 19 + 2 * j) (n := 2768 + 12 * j) (show 17 + 2 * j + 1 ≤ 19 + 2 * j by omega) (show 2756 + 12 * j + 6 ≤ 2768 + 12 * j by omega) ?_
            exact KK (upd t n y1) (vu k n kk) (upd v n y3) b9 (n + 1) kd ln w y1 ins (vp_updL o 0 (nI (n + 1)).toInt64) 0 hd so fq (ji_tuple hji hn3 hg.1 hkk hins) _ _ hP hD hS ls (lv_sub hl [2, 3, 4, 5, 6] rfl)
          · first | exact absurd rfl c_3 | exact absurd c_3 (by decide)
      · first | exact absurd rfl c_1 | exact absurd c_1 (by decide)
    · exact absurd hg g1
    · exact absurd hn3 (by omega)
  · obtain ⟨hP, hD⟩ := va_join (wr := md cm am th t k v n nw w kd ln hd so fq) (w1 := wo ca ad co oa t k v b n kd ln w nw ins o) hP hD [0, 1, 2, 3, 4, 5, 6, 7, 8] [9, 10, 11, 12, 13, 14, 15] rfl rfl (by decide) (by decide) hk1 hFc hP1 hD1
    have hP := hP.sub (ws' := lwW ca ad co oa cm am t k v b n kd ln w nw ins o th t k v n nw w kd ln hd so fq) [7, 8, 9, 10, 11, 12, 13, 14, 15, 0, 1, 2, 3, 4, 5, 6] rfl
    have hD := hD.sub (ws' := lwW ca ad co oa cm am t k v b n kd ln w nw ins o th t k v n nw w kd ln hd so fq) [7, 8, 9, 10, 11, 12, 13, 14, 15, 0, 1, 2, 3, 4, 5, 6] (by decide) rfl
    refine lv_istore (lv' := [(5, .int 1), (0, .ref bs), (1, .ref (ad 0)), (2, .ref (am 0)), (3, .ref oa), (4, .int (nI (4 * j)))]) hx hb dL_law_194 hl (by decide) rfl (fun ls hl => ?_)
    refine lv_aload_n hx hb dL_law_196 rfl (lv_at hl 3 rfl) ?_
    refine lv_aload_n hx hb dL_law_197 rfl (lv_at hl 1 rfl) ?_
    refine lv_iload hx hb dL_law_198 (lv_at hl 5 rfl) ?_
    refine lv_iconst (v := 1) hx hb dL_law_200 (by decide) ?_
    refine lv_iadd hx hb dL_law_201 ?_
    rw [nI_1 (4 * j)]
    refine va_sld hx hb hXs hbl hbA hS (hin 1 (by decide)) dL_law_202 ?_
    rw [ey1]
    refine lv_aload_n hx hb dL_law_203 rfl (lv_at hl 1 rfl) ?_
    refine lv_iload hx hb dL_law_204 (lv_at hl 5 rfl) ?_
    refine lv_iconst (v := 2) hx hb dL_law_206 (by decide) ?_
    refine lv_iadd hx hb dL_law_207 ?_
    rw [yl_2 (4 * j)]
    refine va_sld hx hb hXs hbl hbA hS (hin 2 (by decide)) dL_law_208 ?_
    rw [ey2]
    refine lv_aload_n hx hb dL_law_209 rfl (lv_at hl 1 rfl) ?_
    refine lv_iload hx hb dL_law_210 (lv_at hl 5 rfl) ?_
    refine lv_iconst (v := 3) hx hb dL_law_212 (by decide) ?_
    refine lv_iadd hx hb dL_law_213 ?_
    rw [yl_3 (4 * j)]
    refine va_sld hx hb hXs hbl hbA hS (hin 3 (by decide)) dL_law_214 ?_
    rw [ey3]
    have hPc := hP.sub (ws' := md cm am th t k v n nw w kd ln hd so fq) [9, 10, 11, 12, 13, 14, 15] rfl
    have hDc := hD.sub (ws' := md cm am th t k v n nw w kd ln hd so fq) [9, 10, 11, 12, 13, 14, 15] (by decide) rfl
    have hKc := hK.sub (tys' := mdT cm) [8, 9, 10, 11, 12, 13] rfl
    have hFc := va_free (wc := md cm am th t k v n nw w kd ln hd so fq) hD hS hA [9, 10, 11, 12, 13, 14, 15] rfl
    refine va_calli (va_runV (As := [.int y1, .int y2, .int y3]) (rest := []) ⟨hx, hb, hml, hown, hts⟩ (m_tuple l dC dI cm am _ th t k v n nw w kd ln hd so fq y1 y2 y3 hn) (cwV 3 hts (gg_V mlL_67 imX1_tuple seX1_tuple in_WindowMetersModel kwX1_tuple) rfl rfl rfl (by decide +kernel) ⟨Nat.le_of_ble_eq_true rfl, Nat.le_of_ble_eq_true rfl⟩) (md_preV hKc hPc hDc [.int y1, .int y2, .int y3]) rfl rfl hl.1 rfl (lv_room (Nat.le_of_ble_eq_true rfl)) dL_law_215 ⟨show 17 + 2 * j + 1 + 0 ≤ 1052 by omega, show 2756 + 12 * j + 6 + 0 ≤ 11011 by omega⟩) hS (fun q _ h => hFc q h) hFc (fun rm um t9 H1 locs ht9 hvm hm9 hB hz1 hk1 hS => ?_)
    obtain ⟨hP1, -, hD1⟩ := hB
    rw [ht9] at hP1
    rcases hm9 with ⟨g1, g2, ⟨k2, hk2, hp3, rfl⟩, hrm⟩ | ⟨g1, rfl⟩ | ⟨g1, g2, rfl⟩
    · exact absurd g1 hg
    · obtain ⟨hP, hD⟩ := va_join (wr := wo ca ad co oa t k v b n kd ln w nw ins o) (w1 := md cm am 1 t k v n nw w kd ln hd so fq) hP hD [9, 10, 11, 12, 13, 14, 15] [0, 1, 2, 3, 4, 5, 6, 7, 8] rfl rfl (by decide) (by decide) hk1 hFc hP1 hD1
      have hP : va_P (dC, dI) vwCl (lwW ca ad co oa cm am t k v b n kd ln w nw ins o 1 t k v n nw w kd ln hd so fq) H1 := hP
      have hD : va_D (fun q : Nat => s.heap.size ≤ q) (lwW ca ad co oa cm am t k v b n kd ln w nw ins o 1 t k v n nw w kd ln hd so fq) := hD
      refine lv_istore (lv' := [(6, .int rm), (5, .int 1), (0, .ref bs), (1, .ref (ad 0)), (2, .ref (am 0)), (3, .ref oa), (4, .int (nI (4 * j)))]) hx hb dL_law_218 hl (by decide) rfl (fun ls hl => ?_)
      refine lv_aload_n hx hb dL_law_220 rfl (lv_at hl 4 rfl) ?_
      have hPc := hP.sub (ws' := md cm am 1 t k v n nw w kd ln hd so fq) [9, 10, 11, 12, 13, 14, 15] rfl
      have hDc := hD.sub (ws' := md cm am 1 t k v n nw w kd ln hd so fq) [9, 10, 11, 12, 13, 14, 15] (by decide) rfl
      have hKc := hK.sub (tys' := mdT cm) [8, 9, 10, 11, 12, 13] rfl
      refine vp_callSi (W.runV (As := []) (rest := []) ⟨hx, hb, hml, hown, hts⟩ (m_thrown l dC dI cm am _ 1 t k v n nw w kd ln hd so fq) (cwV 0 hts (gg_V mlL_60 imX1_thrown seX1_thrown in_WindowMetersModel kwX1_thrown) rfl rfl rfl (by decide +kernel) ⟨Nat.le_of_ble_eq_true rfl, Nat.le_of_ble_eq_true rfl⟩) (md_preV hKc hPc hDc []) rfl rfl hl.1 rfl (lv_room (Nat.le_of_ble_eq_true rfl)) dL_law_221 ⟨show 17 + 2 * j + 1 + 0 ≤ 1052 by omega, show 2756 + 12 * j + 6 + 0 ≤ 11011 by omega⟩) (fun rt hrt => ?_)
      obtain rfl : rt = 1 := hrt
      refine lv_iload hx hb dL_law_224 (lv_at hl 1 rfl) ?_
      refine lv_icmp_eq (tgt := 231) hx hb dL_law_226 (by decide) (fun c_4 => ?_) (fun c_4 => ?_)
      · refine lv_iload hx hb dL_law_231 (lv_at hl 1 rfl) ?_
        refine lv_if_ne (tgt := 248) hx hb dL_law_233 (by decide) (fun c_5 => ?_) (fun c_5 => ?_)
        · refine lv_goto (tgt := 635) hx hb dL_law_248 (by decide) ?_
          refine W.widen (k := 19 + 2 * j) (n := 2768 + 12 * j) (show 17 + 2 * j + 1 ≤ 19 + 2 * j by omega) (show 2756 + 12 * j + 6 ≤ 2768 + 12 * j by omega) ?_
          exact KK t k v b n kd ln w nw ins o 1 hd so fq hji _ _ hP hD hS ls (lv_sub hl [2, 3, 4, 5, 6] rfl)
        · first | exact absurd rfl c_5 | exact absurd c_5 (by decide)
      · first | exact absurd rfl c_4 | exact absurd c_4 (by decide)
    · exact absurd g1 hg
  · obtain ⟨hP, hD⟩ := va_join (wr := md cm am th t k v n nw w kd ln hd so fq) (w1 := wo ca ad co oa t k v b n kd ln w nw ins o) hP hD [0, 1, 2, 3, 4, 5, 6, 7, 8] [9, 10, 11, 12, 13, 14, 15] rfl rfl (by decide) (by decide) hk1 hFc hP1 hD1
    have hP := hP.sub (ws' := lwW ca ad co oa cm am t k v b n kd ln w nw ins o th t k v n nw w kd ln hd so fq) [7, 8, 9, 10, 11, 12, 13, 14, 15, 0, 1, 2, 3, 4, 5, 6] rfl
    have hD := hD.sub (ws' := lwW ca ad co oa cm am t k v b n kd ln w nw ins o th t k v n nw w kd ln hd so fq) [7, 8, 9, 10, 11, 12, 13, 14, 15, 0, 1, 2, 3, 4, 5, 6] (by decide) rfl
    refine lv_istore (lv' := [(5, .int 2), (0, .ref bs), (1, .ref (ad 0)), (2, .ref (am 0)), (3, .ref oa), (4, .int (nI (4 * j)))]) hx hb dL_law_194 hl (by decide) rfl (fun ls hl => ?_)
    refine lv_aload_n hx hb dL_law_196 rfl (lv_at hl 3 rfl) ?_
    refine lv_aload_n hx hb dL_law_197 rfl (lv_at hl 1 rfl) ?_
    refine lv_iload hx hb dL_law_198 (lv_at hl 5 rfl) ?_
    refine lv_iconst (v := 1) hx hb dL_law_200 (by decide) ?_
    refine lv_iadd hx hb dL_law_201 ?_
    rw [nI_1 (4 * j)]
    refine va_sld hx hb hXs hbl hbA hS (hin 1 (by decide)) dL_law_202 ?_
    rw [ey1]
    refine lv_aload_n hx hb dL_law_203 rfl (lv_at hl 1 rfl) ?_
    refine lv_iload hx hb dL_law_204 (lv_at hl 5 rfl) ?_
    refine lv_iconst (v := 2) hx hb dL_law_206 (by decide) ?_
    refine lv_iadd hx hb dL_law_207 ?_
    rw [yl_2 (4 * j)]
    refine va_sld hx hb hXs hbl hbA hS (hin 2 (by decide)) dL_law_208 ?_
    rw [ey2]
    refine lv_aload_n hx hb dL_law_209 rfl (lv_at hl 1 rfl) ?_
    refine lv_iload hx hb dL_law_210 (lv_at hl 5 rfl) ?_
    refine lv_iconst (v := 3) hx hb dL_law_212 (by decide) ?_
    refine lv_iadd hx hb dL_law_213 ?_
    rw [yl_3 (4 * j)]
    refine va_sld hx hb hXs hbl hbA hS (hin 3 (by decide)) dL_law_214 ?_
    rw [ey3]
    have hPc := hP.sub (ws' := md cm am th t k v n nw w kd ln hd so fq) [9, 10, 11, 12, 13, 14, 15] rfl
    have hDc := hD.sub (ws' := md cm am th t k v n nw w kd ln hd so fq) [9, 10, 11, 12, 13, 14, 15] (by decide) rfl
    have hKc := hK.sub (tys' := mdT cm) [8, 9, 10, 11, 12, 13] rfl
    have hFc := va_free (wc := md cm am th t k v n nw w kd ln hd so fq) hD hS hA [9, 10, 11, 12, 13, 14, 15] rfl
    refine va_calli (va_runV (As := [.int y1, .int y2, .int y3]) (rest := []) ⟨hx, hb, hml, hown, hts⟩ (m_tuple l dC dI cm am _ th t k v n nw w kd ln hd so fq y1 y2 y3 hn) (cwV 3 hts (gg_V mlL_67 imX1_tuple seX1_tuple in_WindowMetersModel kwX1_tuple) rfl rfl rfl (by decide +kernel) ⟨Nat.le_of_ble_eq_true rfl, Nat.le_of_ble_eq_true rfl⟩) (md_preV hKc hPc hDc [.int y1, .int y2, .int y3]) rfl rfl hl.1 rfl (lv_room (Nat.le_of_ble_eq_true rfl)) dL_law_215 ⟨show 17 + 2 * j + 1 + 0 ≤ 1052 by omega, show 2756 + 12 * j + 6 + 0 ≤ 11011 by omega⟩) hS (fun q _ h => hFc q h) hFc (fun rm um t9 H1 locs ht9 hvm hm9 hB hz1 hk1 hS => ?_)
    obtain ⟨hP1, -, hD1⟩ := hB
    rw [ht9] at hP1
    rcases hm9 with ⟨g1, g2, ⟨k2, hk2, hp3, rfl⟩, hrm⟩ | ⟨g1, rfl⟩ | ⟨g1, g2, rfl⟩
    · exact absurd g2 (by omega)
    · exact absurd hg g1
    · obtain ⟨hP, hD⟩ := va_join (wr := wo ca ad co oa t k v b n kd ln w nw ins o) (w1 := md cm am 2 t k v n nw w kd ln hd so fq) hP hD [9, 10, 11, 12, 13, 14, 15] [0, 1, 2, 3, 4, 5, 6, 7, 8] rfl rfl (by decide) (by decide) hk1 hFc hP1 hD1
      have hP : va_P (dC, dI) vwCl (lwW ca ad co oa cm am t k v b n kd ln w nw ins o 2 t k v n nw w kd ln hd so fq) H1 := hP
      have hD : va_D (fun q : Nat => s.heap.size ≤ q) (lwW ca ad co oa cm am t k v b n kd ln w nw ins o 2 t k v n nw w kd ln hd so fq) := hD
      refine lv_istore (lv' := [(6, .int rm), (5, .int 2), (0, .ref bs), (1, .ref (ad 0)), (2, .ref (am 0)), (3, .ref oa), (4, .int (nI (4 * j)))]) hx hb dL_law_218 hl (by decide) rfl (fun ls hl => ?_)
      refine lv_aload_n hx hb dL_law_220 rfl (lv_at hl 4 rfl) ?_
      have hPc := hP.sub (ws' := md cm am 2 t k v n nw w kd ln hd so fq) [9, 10, 11, 12, 13, 14, 15] rfl
      have hDc := hD.sub (ws' := md cm am 2 t k v n nw w kd ln hd so fq) [9, 10, 11, 12, 13, 14, 15] (by decide) rfl
      have hKc := hK.sub (tys' := mdT cm) [8, 9, 10, 11, 12, 13] rfl
      refine vp_callSi (W.runV (As := []) (rest := []) ⟨hx, hb, hml, hown, hts⟩ (m_thrown l dC dI cm am _ 2 t k v n nw w kd ln hd so fq) (cwV 0 hts (gg_V mlL_60 imX1_thrown seX1_thrown in_WindowMetersModel kwX1_thrown) rfl rfl rfl (by decide +kernel) ⟨Nat.le_of_ble_eq_true rfl, Nat.le_of_ble_eq_true rfl⟩) (md_preV hKc hPc hDc []) rfl rfl hl.1 rfl (lv_room (Nat.le_of_ble_eq_true rfl)) dL_law_221 ⟨show 17 + 2 * j + 1 + 0 ≤ 1052 by omega, show 2756 + 12 * j + 6 + 0 ≤ 11011 by omega⟩) (fun rt hrt => ?_)
      obtain rfl : rt = 2 := hrt
      refine lv_iload hx hb dL_law_224 (lv_at hl 1 rfl) ?_
      refine lv_icmp_eq (tgt := 231) hx hb dL_law_226 (by decide) (fun c_6 => ?_) (fun c_6 => ?_)
      · refine lv_iload hx hb dL_law_231 (lv_at hl 1 rfl) ?_
        refine lv_if_ne (tgt := 248) hx hb dL_law_233 (by decide) (fun c_7 => ?_) (fun c_7 => ?_)
        · refine lv_goto (tgt := 635) hx hb dL_law_248 (by decide) ?_
          refine W.widen (k := 19 + 2 * j) (n := 2768 + 12 * j) (show 17 + 2 * j + 1 ≤ 19 + 2 * j by omega) (show 2756 + 12 * j + 6 ≤ 2768 + 12 * j by omega) ?_
          exact KK t k v b n kd ln w nw ins o 2 hd so fq hji _ _ hP hD hS ls (lv_sub hl [2, 3, 4, 5, 6] rfl)
        · first | exact absurd rfl c_7 | exact absurd c_7 (by decide)
      · first | exact absurd rfl c_6 | exact absurd c_6 (by decide)

set_option maxRecDepth 100000 in
set_option maxHeartbeats 8000000 in
/-- the law's arm: tick -/
theorem a_tick {p : Program} {l : Launch} {e : Env} {s : State} {m : MethodId} {below : List Frame} {meth : Method} {c : Code} {dC : Nat → ClassId} {dI : Nat → Nat → Nat} {bs L : Nat} {xs : Nat → Int32} (hlt : l.stackTraces = false) (hL : L ≤ 2048) (C0 : lw_At p s m meth c bs L xs) {ca : Nat → ClassId} {ad : Nat → Nat} {co : ClassId} {oa : Nat} {cm : Nat → ClassId} {am : Nat → Nat} (hK : va_K (dC, dI) vwCl (lwT ca co cm) s) (hX : xwP (fun q : Nat => s.heap.size ≤ q) s) (j : Nat) (hj : 4 * j + 4 ≤ L) (KK : lw_go p l e s m below meth c dC dI bs ca ad co oa cm am (4 * j) 635 (19 + 2 * j) (2768 + 12 * j)) : lw_go p l e s m below meth c dC dI bs ca ad co oa cm am (4 * j) 251 (17 + 2 * j) (2756 + 12 * j) := by
  intro t k v b n kd ln w nw ins o th hd so fq hji H locs hP hD hS ls hl
  obtain ⟨hx, hb, hr, hml, hown0, hts0, hXs, hbl, hlocks, hgv⟩ := C0
  have hown : s.vm.findClass RL = some m.cls := hown0
  have hts : ∀ w ∈ kL_window :: gt, w.before #[Value.ref bs] s = true := fun w h => hts0 w ((List.mem_cons.mp h).elim (fun e => by rw [e]; exact gt_in _ kwL_window) (fun h => gt_in _ h))
  have hA : ∀ q : Nat, s.heap.size ≤ q → (fun q : Nat => s.heap.size ≤ q) q := fun _ h => h
  have hbA : ¬ (fun q : Nat => s.heap.size ≤ q) bs := Nat.not_le.mpr hbl
  have hin : ∀ k : Nat, k < 4 → vp_in (nI (4 * j + k)) L := fun k hk => vp_in_nI (by omega) (by omega)
  obtain ⟨y0, ey0⟩ : ∃ y : Int32, xs (nI (4 * j)).toNatClampNeg = y := ⟨_, rfl⟩
  obtain ⟨y1, ey1⟩ : ∃ y : Int32, xs (nI (4 * j + 1)).toNatClampNeg = y := ⟨_, rfl⟩
  obtain ⟨y2, ey2⟩ : ∃ y : Int32, xs (nI (4 * j + 2)).toNatClampNeg = y := ⟨_, rfl⟩
  obtain ⟨y3, ey3⟩ : ∃ y : Int32, xs (nI (4 * j + 3)).toNatClampNeg = y := ⟨_, rfl⟩
  obtain ⟨hn, hw6, hk8, hbo, hbs, ht8, hnw, hln⟩ := id hji
  have hbn := pb_lt hbo
  refine lv_aload_n hx hb dL_law_251 rfl (lv_at hl 1 rfl) ?_
  refine lv_aload_n hx hb dL_law_252 rfl (lv_at hl 0 rfl) ?_
  refine lv_iload hx hb dL_law_253 (lv_at hl 4 rfl) ?_
  refine lv_iconst (v := 1) hx hb dL_law_255 (by decide) ?_
  refine lv_iadd hx hb dL_law_256 ?_
  rw [nI_1 (4 * j)]
  refine va_sld hx hb hXs hbl hbA hS (hin 1 (by decide)) dL_law_257 ?_
  rw [ey1]
  have hPc := hP.sub (ws' := wm ca ad t k v b n kd ln w nw ins) [0, 1, 2, 3, 4, 5, 6, 7] rfl
  have hDc := hD.sub (ws' := wm ca ad t k v b n kd ln w nw ins) [0, 1, 2, 3, 4, 5, 6, 7] (by decide) rfl
  have hKc := hK.sub (tys' := wmT ca) [0, 1, 2, 3, 4, 5, 6] rfl
  have hFc := va_free (wc := wm ca ad t k v b n kd ln w nw ins) hD hS hA [0, 1, 2, 3, 4, 5, 6, 7] rfl
  refine va_calli (vx_runSW (As := [.ref (ad 0), .int y1]) (rest := []) ⟨hx, hb, hml, hown, hts⟩ (c_L_tick l hlt dC dI ca ad _ t k v b n kd ln w nw ins  y1 ) (vx_cwSW 2 hts (gg_S mlL_68 stL_tick in_WindowMetersLaw kwL_tick) rfl rfl rfl (by decide +kernel) ⟨Nat.le_of_ble_eq_true rfl, Nat.le_of_ble_eq_true rfl⟩) (lw_preS hKc hPc hDc hS hFc hX [.ref (ad 0), .int y1]) rfl rfl hl.1 rfl (lv_room (Nat.le_of_ble_eq_true rfl)) dL_law_258 ⟨show 17 + 2 * j + 1 ≤ 1052 by omega, show 2756 + 12 * j + 6 ≤ 11011 by omega⟩) hS (fun q _ h => hFc q h) hFc (fun r9 u9 t9 H1 locs ht9 hvm hw9 hB hz1 hk1 hS => ?_)
  obtain ⟨hP1, -, hD1⟩ := hB
  rw [ht9] at hP1
  rcases hw9 with ⟨rfl, hg, hu⟩ | ⟨rfl, hg, hu⟩
  · rw [hu] at hP1 hD1
    obtain ⟨hP, hD⟩ := va_join (wr := (oa, .inl (co, 1, .inr (.inl o))) :: (md cm am th t k v n nw w kd ln hd so fq)) (w1 := wm ca ad t k v b n kd ln w y1 ins) hP hD [0, 1, 2, 3, 4, 5, 6, 7] [8, 9, 10, 11, 12, 13, 14, 15] rfl rfl (by decide) (by decide) hk1 hFc hP1 hD1
    have hP := hP.sub (ws' := lwW ca ad co oa cm am t k v b n kd ln w y1 ins o th t k v n nw w kd ln hd so fq) [8, 9, 10, 11, 12, 13, 14, 15, 0, 1, 2, 3, 4, 5, 6, 7] rfl
    have hD := hD.sub (ws' := lwW ca ad co oa cm am t k v b n kd ln w y1 ins o th t k v n nw w kd ln hd so fq) [8, 9, 10, 11, 12, 13, 14, 15, 0, 1, 2, 3, 4, 5, 6, 7] (by decide) rfl
    refine lv_istore (lv' := [(5, .int 0), (0, .ref bs), (1, .ref (ad 0)), (2, .ref (am 0)), (3, .ref oa), (4, .int (nI (4 * j)))]) hx hb dL_law_261 hl (by decide) rfl (fun ls hl => ?_)
    refine lv_aload_n hx hb dL_law_263 rfl (lv_at hl 3 rfl) ?_
    refine lv_aload_n hx hb dL_law_264 rfl (lv_at hl 1 rfl) ?_
    refine lv_iload hx hb dL_law_265 (lv_at hl 5 rfl) ?_
    refine lv_iconst (v := 1) hx hb dL_law_267 (by decide) ?_
    refine lv_iadd hx hb dL_law_268 ?_
    rw [nI_1 (4 * j)]
    refine va_sld hx hb hXs hbl hbA hS (hin 1 (by decide)) dL_law_269 ?_
    rw [ey1]
    have hPc := hP.sub (ws' := md cm am th t k v n nw w kd ln hd so fq) [9, 10, 11, 12, 13, 14, 15] rfl
    have hDc := hD.sub (ws' := md cm am th t k v n nw w kd ln hd so fq) [9, 10, 11, 12, 13, 14, 15] (by decide) rfl
    have hKc := hK.sub (tys' := mdT cm) [8, 9, 10, 11, 12, 13] rfl
    have hFc := va_free (wc := md cm am th t k v n nw w kd ln hd so fq) hD hS hA [9, 10, 11, 12, 13, 14, 15] rfl
    refine va_callv (va_runV (As := [.int y1]) (rest := []) ⟨hx, hb, hml, hown, hts⟩ (m_tick l dC dI cm am _ th t k v n nw w kd ln hd so fq y1 ) (cwV 1 hts (gg_V mlL_71 imX1_tick seX1_tick in_WindowMetersModel kwX1_tick) rfl rfl rfl (by decide +kernel) ⟨Nat.le_of_ble_eq_true rfl, Nat.le_of_ble_eq_true rfl⟩) (md_preV hKc hPc hDc [.int y1]) rfl rfl hl.1 rfl (lv_room (Nat.le_of_ble_eq_true rfl)) dL_law_270 ⟨show 17 + 2 * j + 1 + 0 ≤ 1052 by omega, show 2756 + 12 * j + 6 + 0 ≤ 11011 by omega⟩) hS (fun q _ h => hFc q h) hFc (fun um t9 H1 locs ht9 hvm hm9 hB hz1 hk1 hS => ?_)
    obtain ⟨hP1, -, hD1⟩ := hB
    rw [ht9] at hP1
    rcases hm9 with ⟨g1, rfl⟩ | ⟨g1, rfl⟩
    · obtain ⟨hP, hD⟩ := va_join (wr := wo ca ad co oa t k v b n kd ln w y1 ins o) (w1 := md cm am 0 t k v n y1 w kd ln hd so fq) hP hD [9, 10, 11, 12, 13, 14, 15] [0, 1, 2, 3, 4, 5, 6, 7, 8] rfl rfl (by decide) (by decide) hk1 hFc hP1 hD1
      have hP : va_P (dC, dI) vwCl (lwW ca ad co oa cm am t k v b n kd ln w y1 ins o 0 t k v n y1 w kd ln hd so fq) H1 := hP
      have hD : va_D (fun q : Nat => s.heap.size ≤ q) (lwW ca ad co oa cm am t k v b n kd ln w y1 ins o 0 t k v n y1 w kd ln hd so fq) := hD
      refine lv_aload_n hx hb dL_law_273 rfl (lv_at hl 3 rfl) ?_
      have hPc := hP.sub (ws' := md cm am 0 t k v n y1 w kd ln hd so fq) [9, 10, 11, 12, 13, 14, 15] rfl
      have hDc := hD.sub (ws' := md cm am 0 t k v n y1 w kd ln hd so fq) [9, 10, 11, 12, 13, 14, 15] (by decide) rfl
      have hKc := hK.sub (tys' := mdT cm) [8, 9, 10, 11, 12, 13] rfl
      refine vp_callSi (W.runV (As := []) (rest := []) ⟨hx, hb, hml, hown, hts⟩ (m_thrown l dC dI cm am _ 0 t k v n y1 w kd ln hd so fq) (cwV 0 hts (gg_V mlL_60 imX1_thrown seX1_thrown in_WindowMetersModel kwX1_thrown) rfl rfl rfl (by decide +kernel) ⟨Nat.le_of_ble_eq_true rfl, Nat.le_of_ble_eq_true rfl⟩) (md_preV hKc hPc hDc []) rfl rfl hl.1 rfl (lv_room (Nat.le_of_ble_eq_true rfl)) dL_law_274 ⟨show 17 + 2 * j + 1 + 0 ≤ 1052 by omega, show 2756 + 12 * j + 6 + 0 ≤ 11011 by omega⟩) (fun rt hrt => ?_)
      obtain rfl : rt = 0 := hrt
      refine lv_iload hx hb dL_law_277 (lv_at hl 0 rfl) ?_
      refine lv_icmp_eq (tgt := 284) hx hb dL_law_279 (by decide) (fun c_1 => ?_) (fun c_1 => ?_)
      · refine lv_goto (tgt := 635) hx hb dL_law_284 (by decide) ?_
        refine W.widen (k := 19 + 2 * j) (n := 2768 + 12 * j) (show 17 + 2 * j + 1 ≤ 19 + 2 * j by omega) (show 2756 + 12 * j + 6 ≤ 2768 + 12 * j by omega) ?_
        exact KK t k v b n kd ln w y1 ins o 0 hd so fq (ji_tick hji hg) _ _ hP hD hS ls (lv_sub hl [1, 2, 3, 4, 5] rfl)
      · first | exact absurd rfl c_1 | exact absurd c_1 (by decide)
    · exact absurd hg g1
  · rw [hu] at hP1 hD1
    obtain ⟨hP, hD⟩ := va_join (wr := (oa, .inl (co, 1, .inr (.inl o))) :: (md cm am th t k v n nw w kd ln hd so fq)) (w1 := wm ca ad t k v b n kd ln w nw ins) hP hD [0, 1, 2, 3, 4, 5, 6, 7] [8, 9, 10, 11, 12, 13, 14, 15] rfl rfl (by decide) (by decide) hk1 hFc hP1 hD1
    have hP := hP.sub (ws' := lwW ca ad co oa cm am t k v b n kd ln w nw ins o th t k v n nw w kd ln hd so fq) [8, 9, 10, 11, 12, 13, 14, 15, 0, 1, 2, 3, 4, 5, 6, 7] rfl
    have hD := hD.sub (ws' := lwW ca ad co oa cm am t k v b n kd ln w nw ins o th t k v n nw w kd ln hd so fq) [8, 9, 10, 11, 12, 13, 14, 15, 0, 1, 2, 3, 4, 5, 6, 7] (by decide) rfl
    refine lv_istore (lv' := [(5, .int 1), (0, .ref bs), (1, .ref (ad 0)), (2, .ref (am 0)), (3, .ref oa), (4, .int (nI (4 * j)))]) hx hb dL_law_261 hl (by decide) rfl (fun ls hl => ?_)
    refine lv_aload_n hx hb dL_law_263 rfl (lv_at hl 3 rfl) ?_
    refine lv_aload_n hx hb dL_law_264 rfl (lv_at hl 1 rfl) ?_
    refine lv_iload hx hb dL_law_265 (lv_at hl 5 rfl) ?_
    refine lv_iconst (v := 1) hx hb dL_law_267 (by decide) ?_
    refine lv_iadd hx hb dL_law_268 ?_
    rw [nI_1 (4 * j)]
    refine va_sld hx hb hXs hbl hbA hS (hin 1 (by decide)) dL_law_269 ?_
    rw [ey1]
    have hPc := hP.sub (ws' := md cm am th t k v n nw w kd ln hd so fq) [9, 10, 11, 12, 13, 14, 15] rfl
    have hDc := hD.sub (ws' := md cm am th t k v n nw w kd ln hd so fq) [9, 10, 11, 12, 13, 14, 15] (by decide) rfl
    have hKc := hK.sub (tys' := mdT cm) [8, 9, 10, 11, 12, 13] rfl
    have hFc := va_free (wc := md cm am th t k v n nw w kd ln hd so fq) hD hS hA [9, 10, 11, 12, 13, 14, 15] rfl
    refine va_callv (va_runV (As := [.int y1]) (rest := []) ⟨hx, hb, hml, hown, hts⟩ (m_tick l dC dI cm am _ th t k v n nw w kd ln hd so fq y1 ) (cwV 1 hts (gg_V mlL_71 imX1_tick seX1_tick in_WindowMetersModel kwX1_tick) rfl rfl rfl (by decide +kernel) ⟨Nat.le_of_ble_eq_true rfl, Nat.le_of_ble_eq_true rfl⟩) (md_preV hKc hPc hDc [.int y1]) rfl rfl hl.1 rfl (lv_room (Nat.le_of_ble_eq_true rfl)) dL_law_270 ⟨show 17 + 2 * j + 1 + 0 ≤ 1052 by omega, show 2756 + 12 * j + 6 + 0 ≤ 11011 by omega⟩) hS (fun q _ h => hFc q h) hFc (fun um t9 H1 locs ht9 hvm hm9 hB hz1 hk1 hS => ?_)
    obtain ⟨hP1, -, hD1⟩ := hB
    rw [ht9] at hP1
    rcases hm9 with ⟨g1, rfl⟩ | ⟨g1, rfl⟩
    · exact absurd g1 hg
    · obtain ⟨hP, hD⟩ := va_join (wr := wo ca ad co oa t k v b n kd ln w nw ins o) (w1 := md cm am 1 t k v n nw w kd ln hd so fq) hP hD [9, 10, 11, 12, 13, 14, 15] [0, 1, 2, 3, 4, 5, 6, 7, 8] rfl rfl (by decide) (by decide) hk1 hFc hP1 hD1
      have hP : va_P (dC, dI) vwCl (lwW ca ad co oa cm am t k v b n kd ln w nw ins o 1 t k v n nw w kd ln hd so fq) H1 := hP
      have hD : va_D (fun q : Nat => s.heap.size ≤ q) (lwW ca ad co oa cm am t k v b n kd ln w nw ins o 1 t k v n nw w kd ln hd so fq) := hD
      refine lv_aload_n hx hb dL_law_273 rfl (lv_at hl 3 rfl) ?_
      have hPc := hP.sub (ws' := md cm am 1 t k v n nw w kd ln hd so fq) [9, 10, 11, 12, 13, 14, 15] rfl
      have hDc := hD.sub (ws' := md cm am 1 t k v n nw w kd ln hd so fq) [9, 10, 11, 12, 13, 14, 15] (by decide) rfl
      have hKc := hK.sub (tys' := mdT cm) [8, 9, 10, 11, 12, 13] rfl
      refine vp_callSi (W.runV (As := []) (rest := []) ⟨hx, hb, hml, hown, hts⟩ (m_thrown l dC dI cm am _ 1 t k v n nw w kd ln hd so fq) (cwV 0 hts (gg_V mlL_60 imX1_thrown seX1_thrown in_WindowMetersModel kwX1_thrown) rfl rfl rfl (by decide +kernel) ⟨Nat.le_of_ble_eq_true rfl, Nat.le_of_ble_eq_true rfl⟩) (md_preV hKc hPc hDc []) rfl rfl hl.1 rfl (lv_room (Nat.le_of_ble_eq_true rfl)) dL_law_274 ⟨show 17 + 2 * j + 1 + 0 ≤ 1052 by omega, show 2756 + 12 * j + 6 + 0 ≤ 11011 by omega⟩) (fun rt hrt => ?_)
      obtain rfl : rt = 1 := hrt
      refine lv_iload hx hb dL_law_277 (lv_at hl 0 rfl) ?_
      refine lv_icmp_eq (tgt := 284) hx hb dL_law_279 (by decide) (fun c_2 => ?_) (fun c_2 => ?_)
      · refine lv_goto (tgt := 635) hx hb dL_law_284 (by decide) ?_
        refine W.widen (k := 19 + 2 * j) (n := 2768 + 12 * j) (show 17 + 2 * j + 1 ≤ 19 + 2 * j by omega) (show 2756 + 12 * j + 6 ≤ 2768 + 12 * j by omega) ?_
        exact KK t k v b n kd ln w nw ins o 1 hd so fq hji _ _ hP hD hS ls (lv_sub hl [1, 2, 3, 4, 5] rfl)
      · first | exact absurd rfl c_2 | exact absurd c_2 (by decide)

set_option maxRecDepth 100000 in
set_option maxHeartbeats 8000000 in
/-- the law's arm: now -/
theorem a_now {p : Program} {l : Launch} {e : Env} {s : State} {m : MethodId} {below : List Frame} {meth : Method} {c : Code} {dC : Nat → ClassId} {dI : Nat → Nat → Nat} {bs L : Nat} {xs : Nat → Int32} (hlt : l.stackTraces = false) (hL : L ≤ 2048) (C0 : lw_At p s m meth c bs L xs) {ca : Nat → ClassId} {ad : Nat → Nat} {co : ClassId} {oa : Nat} {cm : Nat → ClassId} {am : Nat → Nat} (hK : va_K (dC, dI) vwCl (lwT ca co cm) s) (hX : xwP (fun q : Nat => s.heap.size ≤ q) s) (j : Nat) (hj : 4 * j + 4 ≤ L) (KK : lw_go p l e s m below meth c dC dI bs ca ad co oa cm am (4 * j) 635 (19 + 2 * j) (2768 + 12 * j)) : lw_go p l e s m below meth c dC dI bs ca ad co oa cm am (4 * j) 622 (17 + 2 * j) (2756 + 12 * j) := by
  intro t k v b n kd ln w nw ins o th hd so fq hji H locs hP hD hS ls hl
  obtain ⟨hx, hb, hr, hml, hown0, hts0, hXs, hbl, hlocks, hgv⟩ := C0
  have hown : s.vm.findClass RL = some m.cls := hown0
  have hts : ∀ w ∈ kL_window :: gt, w.before #[Value.ref bs] s = true := fun w h => hts0 w ((List.mem_cons.mp h).elim (fun e => by rw [e]; exact gt_in _ kwL_window) (fun h => gt_in _ h))
  have hA : ∀ q : Nat, s.heap.size ≤ q → (fun q : Nat => s.heap.size ≤ q) q := fun _ h => h
  have hbA : ¬ (fun q : Nat => s.heap.size ≤ q) bs := Nat.not_le.mpr hbl
  have hin : ∀ k : Nat, k < 4 → vp_in (nI (4 * j + k)) L := fun k hk => vp_in_nI (by omega) (by omega)
  obtain ⟨y0, ey0⟩ : ∃ y : Int32, xs (nI (4 * j)).toNatClampNeg = y := ⟨_, rfl⟩
  obtain ⟨y1, ey1⟩ : ∃ y : Int32, xs (nI (4 * j + 1)).toNatClampNeg = y := ⟨_, rfl⟩
  obtain ⟨y2, ey2⟩ : ∃ y : Int32, xs (nI (4 * j + 2)).toNatClampNeg = y := ⟨_, rfl⟩
  obtain ⟨y3, ey3⟩ : ∃ y : Int32, xs (nI (4 * j + 3)).toNatClampNeg = y := ⟨_, rfl⟩
  obtain ⟨hn, hw6, hk8, hbo, hbs, ht8, hnw, hln⟩ := id hji
  have hbn := pb_lt hbo
  refine lv_aload_n hx hb dL_law_622 rfl (lv_at hl 1 rfl) ?_
  have hPc := hP.sub (ws' := wm ca ad t k v b n kd ln w nw ins) [0, 1, 2, 3, 4, 5, 6, 7] rfl
  have hDc := hD.sub (ws' := wm ca ad t k v b n kd ln w nw ins) [0, 1, 2, 3, 4, 5, 6, 7] (by decide) rfl
  have hKc := hK.sub (tys' := wmT ca) [0, 1, 2, 3, 4, 5, 6] rfl
  refine vp_callSi (W.runV (As := []) (rest := []) ⟨hx, hb, hml, hown, hts⟩ (c_now l dC dI ca ad _ t k v b n kd ln w nw ins) (cwV 0 hts (gg_V mlL_88 imX0_now seX0_now in_WindowMeters kwX0_now) rfl rfl rfl (by decide +kernel) ⟨Nat.le_of_ble_eq_true rfl, Nat.le_of_ble_eq_true rfl⟩) (wm_preV hKc hPc hDc []) rfl rfl hl.1 rfl (lv_room (Nat.le_of_ble_eq_true rfl)) dL_law_623 ⟨show 17 + 2 * j + 0 ≤ 1052 by omega, show 2756 + 12 * j + 0 ≤ 11011 by omega⟩) (fun r9 hr9 => ?_)
  refine lv_aload_n hx hb dL_law_626 rfl (lv_at hl 2 rfl) ?_
  have hPc := hP.sub (ws' := md cm am th t k v n nw w kd ln hd so fq) [9, 10, 11, 12, 13, 14, 15] rfl
  have hDc := hD.sub (ws' := md cm am th t k v n nw w kd ln hd so fq) [9, 10, 11, 12, 13, 14, 15] (by decide) rfl
  have hKc := hK.sub (tys' := mdT cm) [8, 9, 10, 11, 12, 13] rfl
  have hFc := va_free (wc := md cm am th t k v n nw w kd ln hd so fq) hD hS hA [9, 10, 11, 12, 13, 14, 15] rfl
  refine va_calli (va_runV (As := []) (rest := [.int r9]) ⟨hx, hb, hml, hown, hts⟩ (m_now l dC dI cm am _ th t k v n nw w kd ln hd so fq  ) (cwV 0 hts (gg_V mlL_91 imX1_now seX1_now in_WindowMetersModel kwX1_now) rfl rfl rfl (by decide +kernel) ⟨Nat.le_of_ble_eq_true rfl, Nat.le_of_ble_eq_true rfl⟩) (md_preV hKc hPc hDc []) rfl rfl hl.1 rfl (lv_room (Nat.le_of_ble_eq_true rfl)) dL_law_627 ⟨show 17 + 2 * j + 0 ≤ 1052 by omega, show 2756 + 12 * j + 0 ≤ 11011 by omega⟩) hS (fun q _ h => hFc q h) hFc (fun rm um t9 H1 locs ht9 hvm hm9 hB hz1 hk1 hS => ?_)
  obtain ⟨hP1, -, hD1⟩ := hB
  rw [ht9] at hP1
  obtain ⟨hP, hD⟩ := va_join (wr := wo ca ad co oa t k v b n kd ln w nw ins o) (w1 := md cm am 0 t k v n nw w kd ln hd so fq) hP hD [9, 10, 11, 12, 13, 14, 15] [0, 1, 2, 3, 4, 5, 6, 7, 8] rfl rfl (by decide) (by decide) hk1 hFc hP1 hD1
  have hP : va_P (dC, dI) vwCl (lwW ca ad co oa cm am t k v b n kd ln w nw ins o 0 t k v n nw w kd ln hd so fq) H1 := hP
  have hD : va_D (fun q : Nat => s.heap.size ≤ q) (lwW ca ad co oa cm am t k v b n kd ln w nw ins o 0 t k v n nw w kd ln hd so fq) := hD
  refine lv_icmp_eq (tgt := 635) hx hb dL_law_630 (by decide) (fun c_1 => ?_) (fun c_1 => ?_)
  · refine W.widen (k := 19 + 2 * j) (n := 2768 + 12 * j) (show 17 + 2 * j ≤ 19 + 2 * j by omega) (show 2756 + 12 * j ≤ 2768 + 12 * j by omega) ?_
    exact KK t k v b n kd ln w nw ins o 0 hd so fq hji _ _ hP hD hS ls (lv_sub hl [0, 1, 2, 3, 4] rfl)
  · exact absurd (hr9.trans hm9.symm) c_1
