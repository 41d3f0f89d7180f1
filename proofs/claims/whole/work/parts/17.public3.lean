def qx_met (v : Nat → Int32) (b : Nat → Nat) (f : Nat → Int32) (n : Nat) (p2 : Int32) : Int32 := if p2 = 0 then nI (qc_cnt f n) else if p2 = 1 then qc_sum v f n else if p2 = 2 then nI (qc_unl v b f n).1 else qc_cmf v b f n
theorem yt_out3 {x : Int32} (h0 : ¬ x = 0) (h1 : ¬ x = 1) (h2 : ¬ x = 2) : x.toInt < 0 ∨ 2 < x.toInt := by
  have k : ∀ c : Int32, ¬ x = c → ¬ x.toInt = c.toInt := fun c h q => h (Int32.toInt_inj.mp q)
  have k0 := k 0 h0
  have k1 := k 1 h1
  have k2 := k 2 h2
  have e0 : (0 : Int32).toInt = 0 := by decide
  have e1 : (1 : Int32).toInt = 1 := by decide
  have e2 : (2 : Int32).toInt = 2 := by decide
  omega
set_option maxRecDepth 100000 in
set_option maxHeartbeats 4000000 in
/-- meter(w, what) -/
theorem c_meter (l : Launch) (hlt : l.stackTraces = false) (dC : Nat → ClassId) (dI : Nat → Nat → Nat) (ca : Nat → ClassId) (ad : Nat → Nat) (sz : Nat) (t : Nat → Int32) (k : Nat → Nat) (v : Nat → Int32) (b : Nat → Nat) (n : Nat) (kd : Nat → Int32) (ln : Nat → Int32) (w : Nat) (nw : Int32) (ins : Nat → Int32) (p1 p2 : Int32) (hn : n ≤ 300) (hk8 : ∀ j, j < n → k j < 8) (hw6 : w ≤ 6) (hbn : ∀ j, j < n → b j < n) : vx_Met l yX0_meter wsX0_meter ({ frames := 7, cells := 2, slots := 12, locals := 111 }) (va_Pc [.ref (ad 0), .int p1, .int p2] (fun U => wmPre dC dI ca ad sz t k v b n kd ln w nw ins U ∧ xwP (va_A (wm ca ad t k v b n kd ln w nw ins) sz) U)) (va_Qi (fun (r : Int32) (u : Nat → Int32) => ∃ wi, wi < w ∧ p1 = nI wi ∧ qx_in p2 0 3 ∧ (∀ j, j < n → qc_mk (u j) (qc_in t k n nw (kd wi) (ln wi) j)) ∧ r = qx_met v b u n p2) (fun u t9 => wmAt dC dI ca ad (va_A (wm ca ad t k v b n kd ln w nw ins) sz) t k v b n kd ln w nw u t9) (va_A (wm ca ad t k v b n kd ln w nw ins) sz)) (vx_X (fun _ : Unit => True) (fun E _ t9 => ((E = xIOB ∧ ¬ qx_win w p1) ∨ (E = xIAE ∧ qx_win w p1 ∧ ¬ qx_in p2 0 3)) ∧ wmAt dC dI ca ad (va_A (wm ca ad t k v b n kd ln w nw ins) sz) t k v b n kd ln w nw ins t9) (va_A (wm ca ad t k v b n kd ln w nw ins) sz)) 2 12 (va_A (wm ca ad t k v b n kd ln w nw ins) sz) := by
  refine vx_ofW (cc := cX0_meter) (maxL := 3) (ret := (some .int)) (by decide) rfl ?_
  intro p e s m args below meth c s₁ B hml het hv
  obtain ⟨rfl, ⟨hsz, hP, hK, hD0⟩, hX⟩ := hv
  have hx := B.exec
  have hb := B.bytes
  have hr := B.returns
  have hts := atoms_spec (ws := wsX0_meter) B.pre
  have hown : s.vm.findClass RX0 = some m.cls := findClass_of_methodNamed B.named
  have hlocks := B.notSynchronized
  subst hsz
  have hD := hD0.self (sz := s.heap.size)
  generalize hAe : va_A (wm ca ad t k v b n kd ln w nw ins) s.heap.size = A at hD hX ⊢
  have hA : ∀ q : Nat, s.heap.size ≤ q → A q := fun q h => by rw [← hAe]; exact Or.inr h
  have hS : va_S A s.heap s.heap [] := va_S.rf
  have hl := lv_entry ([.ref (ad 0), .int p1, .int p2]) (n := 3) (Nat.le_of_ble_eq_true rfl)
  rw [lg_entry_eq]
  generalize (lg_sl ([.ref (ad 0), .int p1, .int p2]) ++ List.replicate (3 - (lg_sl ([.ref (ad 0), .int p1, .int p2])).length) Slot.unset).toArray = ls at hl ⊢
  have hl : lv_has ls 3 [(0, .ref (ad 0)), (1, .int p1), (2, .int p2)] := hl
  refine lv_aload_n hx hb dX0_meter_0 rfl (lv_at hl 0 rfl) ?_
  refine lv_iload_n hx hb dX0_meter_1 rfl (lv_at hl 1 rfl) ?_
  have hFc := va_free (wc := wm ca ad t k v b n kd ln w nw ins) hD hS hA [0, 1, 2, 3, 4, 5, 6, 7] rfl
  refine vx_callv (vx_runV (As := [.int p1]) (rest := []) ⟨hx, hb, hml, hown, hts⟩ (c_checkWindow l hlt dC dI ca ad _ t k v b n kd ln w nw ins p1 hw6) (cwV 1 hts (gg_V mlX0_67 imX0_checkWindow seX0_checkWindow in_WindowMeters kwX0_checkWindow) rfl rfl rfl (by decide +kernel) ⟨Nat.le_of_ble_eq_true rfl, Nat.le_of_ble_eq_true rfl⟩) (wm_preX hK hP hD hS hFc hX [.int p1]) rfl rfl hl.1 rfl (lv_room (Nat.le_of_ble_eq_true rfl)) dX0_meter_2 ⟨Nat.le_of_ble_eq_true rfl, Nat.le_of_ble_eq_true rfl⟩) hS (fun q _ h => hFc q h) hFc (fun q _ h => hFc q h) (fun E ce q9 u t9 H1 locs ht9 hvm _ hB hz1 hk1 hS hcell hcv hcl => ?_) (fun u t9 H1 locs ht9 hvm hw_1 hB hz1 hk1 hS => ?_)
  · obtain ⟨hE, hP, -, hD1⟩ := hB
    rw [ht9] at hP
    have hD := hD1.weaken (fun k q hk h => hFc q.1 h)
    exact vx_out (fun x h => (het x h).elim) hlocks hcell hcv hcl (fun t8 ht8 hal => ⟨(), trivial, ⟨Or.inl hE, by rw [ht8]; exact hP, va_K.moved hal hK, hD⟩, hS.F ht8⟩) hS.2.2 (Nat.le_of_ble_eq_true rfl) (Nat.le_of_ble_eq_true rfl)
  · obtain ⟨hP, -, hD1⟩ := hB
    rw [ht9] at hP
    have hD := hD1.weaken (fun k q hk h => hFc q.1 h)
    generalize H1 = H at hP hS ⊢
    have hP : va_P (dC, dI) vwCl (wm ca ad t k v b n kd ln w nw ins) H := hP
    have hD : va_D A (wm ca ad t k v b n kd ln w nw ins) := hD
    obtain ⟨wi, hwi, rfl⟩ := hw_1
    have hl : lv_has ls 3 [(0, .ref (ad 0)), (1, .int (nI wi)), (2, .int p2)] := hl
    refine lv_iload_n hx hb dX0_meter_5 rfl (lv_at hl 2 rfl) ?_
    refine lv_if_lt (tgt := 14) hx hb dX0_meter_6 (by decide) (fun c_2 => ?_) (fun c_2 => ?_)
    · obtain ⟨sa, hsa⟩ := hX.1.2.1 (70, "no such meter") (by decide)
      exact vx_throwS (own := RX0) (cls := xIAE) (text := "no such meter") (names := xNM) (ik := 42) (is := 70) (ic := 46) (A := A) hx hb hlt hown xf_IAE xf_NM (hts _ (List.mem_cons_of_mem _ klX0_42)) (hts _ (List.mem_cons_of_mem _ in_java_lang_IllegalArgumentException)) hsa (xa_IAE hts hX.1) xg_IAE hX.2.1 hX.2.2 hS (by rw [hml]; exact hl.1) dX0_meter_14 dX0_meter_17 dX0_meter_18 dX0_meter_20 dX0_meter_23 (fun x h => (het x h).elim) (Nat.le_of_ble_eq_true rfl) (Nat.le_of_ble_eq_true rfl) (Nat.le_of_ble_eq_true rfl) (Nat.le_of_ble_eq_true rfl) hlocks (fun t9 hal hz hq => by
        obtain ⟨gP, gK, gF⟩ := wm_thrown hP hK hS hal hz hq
        exact ⟨(), trivial, ⟨Or.inr ⟨rfl, ⟨wi, hwi, rfl⟩, fun q => (qx_in0.mp q).1 c_2⟩, gP, gK, hD⟩, gF⟩) hS.2.2 (Nat.le_of_ble_eq_true rfl) (Nat.le_of_ble_eq_true rfl)
    · refine lv_iload_n hx hb dX0_meter_9 rfl (lv_at hl 2 rfl) ?_
      refine lv_iconst (v := 3) hx hb dX0_meter_10 (by decide) ?_
      refine lv_icmp_le (tgt := 24) hx hb dX0_meter_11 (by decide) (fun c_3 => ?_) (fun c_3 => ?_)
      · have hG : qx_in p2 0 3 := qx_in0.mpr ⟨c_2, c_3⟩
        refine lv_aload_n hx hb dX0_meter_24 rfl (lv_at hl 0 rfl) ?_
        refine lv_iload_n hx hb dX0_meter_25 rfl (lv_at hl 1 rfl) ?_
        have hFc := va_free (wc := wm ca ad t k v b n kd ln w nw ins) hD hS hA [0, 1, 2, 3, 4, 5, 6, 7] rfl
        refine va_callv (va_runV (As := [.int (nI wi)]) (rest := []) ⟨hx, hb, hml, hown, hts⟩ (c_markInside l dC dI ca ad _ t k v b n kd ln w nw ins wi  hn hk8 (by omega)) (cwV 1 hts (gg_V mlX0_72 imX0_markInside seX0_markInside in_WindowMeters kwX0_markInside) rfl rfl rfl (by decide +kernel) ⟨Nat.le_of_ble_eq_true rfl, Nat.le_of_ble_eq_true rfl⟩) (wm_preV hK hP hD [.int (nI wi)]) rfl rfl hl.1 rfl (lv_room (Nat.le_of_ble_eq_true rfl)) dX0_meter_26 ⟨Nat.le_of_ble_eq_true rfl, Nat.le_of_ble_eq_true rfl⟩) hS (fun q _ h => hFc q h) hFc (fun u9 t9 H1 locs ht9 hvm hw_4 hB hz1 hk1 hS => ?_)
        obtain ⟨hP, -, hD1⟩ := hB
        rw [ht9] at hP
        have hD := hD1.weaken (fun k q hk h => hFc q.1 h)
        generalize H1 = H at hP hS ⊢
        have hP : va_P (dC, dI) vwCl (wm ca ad t k v b n kd ln w nw u9) H := hP
        have hD : va_D A (wm ca ad t k v b n kd ln w nw u9) := hD
        refine lv_iload_n hx hb dX0_meter_29 rfl (lv_at hl 2 rfl) ?_
        by_cases g0 : p2 = 0
        · refine lv_tableIn (off := 26) (tgt := 56) hx hb dX0_meter_30 (by rw [g0]; decide) (by rw [g0]; decide) (by rw [g0]; decide) (by decide) ?_
          refine lv_aload_n hx hb dX0_meter_56 rfl (lv_at hl 0 rfl) ?_
          refine vp_callSi (W.runV (As := []) (rest := []) ⟨hx, hb, hml, hown, hts⟩ (c_countInside l dC dI ca ad _ t k v b n kd ln w nw u9   hn) (cwV 0 hts (gg_V mlX0_75 imX0_countInside seX0_countInside in_WindowMeters kwX0_countInside) rfl rfl rfl (by decide +kernel) ⟨Nat.le_of_ble_eq_true rfl, Nat.le_of_ble_eq_true rfl⟩) (wm_preV hK hP hD []) rfl rfl hl.1 rfl (lv_room (Nat.le_of_ble_eq_true rfl)) dX0_meter_57 ⟨Nat.le_of_ble_eq_true rfl, Nat.le_of_ble_eq_true rfl⟩) (fun r_5 hr_6 => ?_)
          refine vx_ret (W.widen (k := 2) (n := 12) (Nat.le_of_ble_eq_true rfl) (Nat.le_of_ble_eq_true rfl) ?_)
          exact W.iret (v := r_5) hx hb hr (fun t9 ht hW => ⟨⟨_, u9, rfl, ⟨wi, hwi, rfl, hG, hw_4, by rw [qx_met, if_pos g0]; exact hr_6⟩, by rw [ht]; exact hP, va_K.moved hW.alike hK, hD⟩, hS.F ht⟩) hS.2.2 dX0_meter_60
        · skip
          by_cases g1 : p2 = 1
          · refine lv_tableIn (off := 31) (tgt := 61) hx hb dX0_meter_30 (by rw [g1]; decide) (by rw [g1]; decide) (by rw [g1]; decide) (by decide) ?_
            refine lv_aload_n hx hb dX0_meter_61 rfl (lv_at hl 0 rfl) ?_
            refine vp_callSi (W.runV (As := []) (rest := []) ⟨hx, hb, hml, hown, hts⟩ (c_sumInside l dC dI ca ad _ t k v b n kd ln w nw u9   hn) (cwV 0 hts (gg_V mlX0_79 imX0_sumInside seX0_sumInside in_WindowMeters kwX0_sumInside) rfl rfl rfl (by decide +kernel) ⟨Nat.le_of_ble_eq_true rfl, Nat.le_of_ble_eq_true rfl⟩) (wm_preV hK hP hD []) rfl rfl hl.1 rfl (lv_room (Nat.le_of_ble_eq_true rfl)) dX0_meter_62 ⟨Nat.le_of_ble_eq_true rfl, Nat.le_of_ble_eq_true rfl⟩) (fun r_7 hr_8 => ?_)
            refine vx_ret (W.widen (k := 2) (n := 12) (Nat.le_of_ble_eq_true rfl) (Nat.le_of_ble_eq_true rfl) ?_)
            exact W.iret (v := r_7) hx hb hr (fun t9 ht hW => ⟨⟨_, u9, rfl, ⟨wi, hwi, rfl, hG, hw_4, by rw [qx_met, if_neg g0, if_pos g1]; exact hr_8⟩, by rw [ht]; exact hP, va_K.moved hW.alike hK, hD⟩, hS.F ht⟩) hS.2.2 dX0_meter_65
          · skip
            by_cases g2 : p2 = 2
            · refine lv_tableIn (off := 36) (tgt := 66) hx hb dX0_meter_30 (by rw [g2]; decide) (by rw [g2]; decide) (by rw [g2]; decide) (by decide) ?_
              refine lv_aload_n hx hb dX0_meter_66 rfl (lv_at hl 0 rfl) ?_
              refine vp_callSi (W.runV (As := []) (rest := []) ⟨hx, hb, hml, hown, hts⟩ (c_countUnlike l dC dI ca ad _ t k v b n kd ln w nw u9   hn hbn) (cwV 0 hts (gg_V mlX0_82 imX0_countUnlike seX0_countUnlike in_WindowMeters kwX0_countUnlike) rfl rfl rfl (by decide +kernel) ⟨Nat.le_of_ble_eq_true rfl, Nat.le_of_ble_eq_true rfl⟩) (wm_preV hK hP hD []) rfl rfl hl.1 rfl (lv_room (Nat.le_of_ble_eq_true rfl)) dX0_meter_67 ⟨Nat.le_of_ble_eq_true rfl, Nat.le_of_ble_eq_true rfl⟩) (fun r_9 hr_10 => ?_)
              refine vx_ret (W.widen (k := 2) (n := 12) (Nat.le_of_ble_eq_true rfl) (Nat.le_of_ble_eq_true rfl) ?_)
              exact W.iret (v := r_9) hx hb hr (fun t9 ht hW => ⟨⟨_, u9, rfl, ⟨wi, hwi, rfl, hG, hw_4, by rw [qx_met, if_neg g0, if_neg g1, if_pos g2]; exact hr_10⟩, by rw [ht]; exact hP, va_K.moved hW.alike hK, hD⟩, hS.F ht⟩) hS.2.2 dX0_meter_70
            · skip
              refine lv_tableOut (tgt := 71) hx hb dX0_meter_30 (yt_out3 g0 g1 g2) (by decide) ?_
              refine lv_aload_n hx hb dX0_meter_71 rfl (lv_at hl 0 rfl) ?_
              refine vp_callSi (W.runV (As := []) (rest := []) ⟨hx, hb, hml, hown, hts⟩ (c_countMostFrequent l dC dI ca ad _ t k v b n kd ln w nw u9   hn hbn) (cwV 0 hts (gg_V mlX0_85 imX0_countMostFrequent seX0_countMostFrequent in_WindowMeters kwX0_countMostFrequent) rfl rfl rfl (by decide +kernel) ⟨Nat.le_of_ble_eq_true rfl, Nat.le_of_ble_eq_true rfl⟩) (wm_preV hK hP hD []) rfl rfl hl.1 rfl (lv_room (Nat.le_of_ble_eq_true rfl)) dX0_meter_72 ⟨Nat.le_of_ble_eq_true rfl, Nat.le_of_ble_eq_true rfl⟩) (fun r_11 hr_12 => ?_)
              refine vx_ret (W.widen (k := 2) (n := 12) (Nat.le_of_ble_eq_true rfl) (Nat.le_of_ble_eq_true rfl) ?_)
              exact W.iret (v := r_11) hx hb hr (fun t9 ht hW => ⟨⟨_, u9, rfl, ⟨wi, hwi, rfl, hG, hw_4, by rw [qx_met, if_neg g0, if_neg g1, if_neg g2]; exact hr_12⟩, by rw [ht]; exact hP, va_K.moved hW.alike hK, hD⟩, hS.F ht⟩) hS.2.2 dX0_meter_75
      · obtain ⟨sa, hsa⟩ := hX.1.2.1 (70, "no such meter") (by decide)
        exact vx_throwS (own := RX0) (cls := xIAE) (text := "no such meter") (names := xNM) (ik := 42) (is := 70) (ic := 46) (A := A) hx hb hlt hown xf_IAE xf_NM (hts _ (List.mem_cons_of_mem _ klX0_42)) (hts _ (List.mem_cons_of_mem _ in_java_lang_IllegalArgumentException)) hsa (xa_IAE hts hX.1) xg_IAE hX.2.1 hX.2.2 hS (by rw [hml]; exact hl.1) dX0_meter_14 dX0_meter_17 dX0_meter_18 dX0_meter_20 dX0_meter_23 (fun x h => (het x h).elim) (Nat.le_of_ble_eq_true rfl) (Nat.le_of_ble_eq_true rfl) (Nat.le_of_ble_eq_true rfl) (Nat.le_of_ble_eq_true rfl) hlocks (fun t9 hal hz hq => by
          obtain ⟨gP, gK, gF⟩ := wm_thrown hP hK hS hal hz hq
          exact ⟨(), trivial, ⟨Or.inr ⟨rfl, ⟨wi, hwi, rfl⟩, fun q => c_3 q.2⟩, gP, gK, hD⟩, gF⟩) hS.2.2 (Nat.le_of_ble_eq_true rfl) (Nat.le_of_ble_eq_true rfl)

set_option maxRecDepth 100000 in
set_option maxHeartbeats 4000000 in
/-- clear() -/
theorem c_clear (l : Launch) (dC : Nat → ClassId) (dI : Nat → Nat → Nat) (ca : Nat → ClassId) (ad : Nat → Nat) (sz : Nat) (t : Nat → Int32) (k : Nat → Nat) (v : Nat → Int32) (b : Nat → Nat) (n : Nat) (kd : Nat → Int32) (ln : Nat → Int32) (w : Nat) (nw : Int32) (ins : Nat → Int32)  : Met l yX0_clear wsX0_clear ({ frames := 0, cells := 0, slots := 0, locals := 0 }) (va_Pc [.ref (ad 0)] (wmPre dC dI ca ad sz t k v b n kd ln w nw ins)) (va_Qv (fun _ : Unit => True) (fun _ t9 => wmAt dC dI ca ad (va_A (wm ca ad t k v b n kd ln w nw ins) sz) t k v b 0 kd ln 0 0 ins t9) (va_A (wm ca ad t k v b n kd ln w nw ins) sz)) 0 0 (va_A (wm ca ad t k v b n kd ln w nw ins) sz) := by
  refine Met.ofW (cc := cX0_clear) (maxL := 1) (ret := none) (by decide) rfl ?_
  intro p e s m args below meth c s₁ B hml hv
  obtain ⟨rfl, hsz, hP, hK, hD0⟩ := hv
  have hx := B.exec
  have hb := B.bytes
  have hr := B.returns
  have hts := atoms_spec (ws := wsX0_clear) B.pre
  have hown : s.vm.findClass RX0 = some m.cls := findClass_of_methodNamed B.named
  have hlocks := B.notSynchronized
  subst hsz
  have hin0 : ∀ w ∈ u_ws RX0 TX0 10, w ∈ wsX0_clear := fun w h => List.mem_cons_of_mem _ (wiX0 w h)
  have fl_32 := hts _ (List.mem_cons_of_mem _ flX0_32)
  have fl_36 := hts _ (List.mem_cons_of_mem _ flX0_36)
  have fl_39 := hts _ (List.mem_cons_of_mem _ flX0_39)
  have hD := hD0.self (sz := s.heap.size)
  generalize hAe : va_A (wm ca ad t k v b n kd ln w nw ins) s.heap.size = A at hD ⊢
  have hA : ∀ q : Nat, s.heap.size ≤ q → A q := fun q h => by rw [← hAe]; exact Or.inr h
  have hS : va_S A s.heap s.heap [] := va_S.rf
  have hl := lv_entry ([.ref (ad 0)]) (n := 1) (Nat.le_of_ble_eq_true rfl)
  rw [lg_entry_eq]
  generalize (lg_sl ([.ref (ad 0)]) ++ List.replicate (1 - (lg_sl ([.ref (ad 0)])).length) Slot.unset).toArray = ls at hl ⊢
  have hl : lv_has ls 1 [(0, .ref (ad 0))] := hl
  refine lv_aload_n hx hb dX0_clear_0 rfl (lv_at hl 0 rfl) ?_
  refine lv_iconst (v := 0) hx hb dX0_clear_1 (by decide) ?_
  refine va_put (D := (dC, dI)) (ci := 0) (v := .int 0) (ty := .int) (C := RX0) (T := TX0) (N := 10) hx hb hts hin0 tyX0 tyX0_ok nmX0 hown hK hP hD hS 0 rfl rfl 4 (by decide) fl_32 (fun _ h9 => h9) rfl (by decide +kernel) rfl rfl (Nat.le_of_ble_eq_true rfl) dX0_clear_2 (fun H locs hP hD hS => ?_)
  have hP : va_P (dC, dI) vwCl (wm ca ad t k v b 0 kd ln w nw ins) H := hP
  have hD : va_D A (wm ca ad t k v b 0 kd ln w nw ins) := hD
  refine lv_aload_n hx hb dX0_clear_5 rfl (lv_at hl 0 rfl) ?_
  refine lv_iconst (v := 0) hx hb dX0_clear_6 (by decide) ?_
  refine va_put (D := (dC, dI)) (ci := 0) (v := .int 0) (ty := .int) (C := RX0) (T := TX0) (N := 10) hx hb hts hin0 tyX0 tyX0_ok nmX0 hown hK hP hD hS 0 rfl rfl 7 (by decide) fl_36 (fun _ h9 => h9) rfl (by decide +kernel) rfl rfl (Nat.le_of_ble_eq_true rfl) dX0_clear_7 (fun H locs hP hD hS => ?_)
  have hP : va_P (dC, dI) vwCl (wm ca ad t k v b 0 kd ln 0 nw ins) H := hP
  have hD : va_D A (wm ca ad t k v b 0 kd ln 0 nw ins) := hD
  refine lv_aload_n hx hb dX0_clear_10 rfl (lv_at hl 0 rfl) ?_
  refine lv_iconst (v := 0) hx hb dX0_clear_11 (by decide) ?_
  refine va_put (D := (dC, dI)) (ci := 0) (v := .int 0) (ty := .int) (C := RX0) (T := TX0) (N := 10) hx hb hts hin0 tyX0 tyX0_ok nmX0 hown hK hP hD hS 0 rfl rfl 8 (by decide) fl_39 (fun _ h9 => h9) rfl (by decide +kernel) rfl rfl (Nat.le_of_ble_eq_true rfl) dX0_clear_12 (fun H locs hP hD hS => ?_)
  have hP : va_P (dC, dI) vwCl (wm ca ad t k v b 0 kd ln 0 0 ins) H := hP
  have hD : va_D A (wm ca ad t k v b 0 kd ln 0 0 ins) := hD
  exact W.vret hx hb hr (fun t9 ht hW => ⟨⟨(), rfl, trivial, by rw [ht]; exact hP, va_K.moved hW.alike hK, hD⟩, hS.F ht⟩) hS.2.2 dX0_clear_15

set_option maxRecDepth 100000 in
set_option maxHeartbeats 4000000 in
/-- now() -/
theorem c_now (l : Launch) (dC : Nat → ClassId) (dI : Nat → Nat → Nat) (ca : Nat → ClassId) (ad : Nat → Nat) (sz : Nat) (t : Nat → Int32) (k : Nat → Nat) (v : Nat → Int32) (b : Nat → Nat) (n : Nat) (kd : Nat → Int32) (ln : Nat → Int32) (w : Nat) (nw : Int32) (ins : Nat → Int32)  : Met l yX0_now wsX0_now ({ frames := 0, cells := 0, slots := 0, locals := 0 }) (va_Pc [.ref (ad 0)] (wmPre dC dI ca ad sz t k v b n kd ln w nw ins)) (vp_Si (fun r => r = nw)) 0 0 (fun _ => False) := by
  refine Met.ofW (cc := cX0_now) (maxL := 1) (ret := (some .int)) (by decide) rfl ?_
  intro p e s m args below meth c s₁ B hml hv
  obtain ⟨rfl, hsz, hP, hK, hD0⟩ := hv
  have hx := B.exec
  have hb := B.bytes
  have hr := B.returns
  have hts := atoms_spec (ws := wsX0_now) B.pre
  have hown : s.vm.findClass RX0 = some m.cls := findClass_of_methodNamed B.named
  have hlocks := B.notSynchronized
  subst hsz
  have hin0 : ∀ w ∈ u_ws RX0 TX0 10, w ∈ wsX0_now := fun w h => List.mem_cons_of_mem _ (wiX0 w h)
  have fl_39 := hts _ (List.mem_cons_of_mem _ flX0_39)
  have hD := hD0
  have hl := lv_entry ([.ref (ad 0)]) (n := 1) (Nat.le_of_ble_eq_true rfl)
  rw [lg_entry_eq]
  generalize (lg_sl ([.ref (ad 0)]) ++ List.replicate (1 - (lg_sl ([.ref (ad 0)])).length) Slot.unset).toArray = ls at hl ⊢
  have hl : lv_has ls 1 [(0, .ref (ad 0))] := hl
  refine lv_aload_n hx hb dX0_now_0 rfl (lv_at hl 0 rfl) ?_
  refine va_get (D := (dC, dI)) (ci := 0) (v := .int nw) (C := RX0) (T := TX0) (N := 10) hx hb hts hin0 hown hK hP 0 rfl rfl 8 (by decide) fl_39 (fun _ h9 => h9) rfl dX0_now_1 ?_
  exact W.iret (v := nw) hx hb hr (fun t ht hW => ⟨_, rfl, rfl, ht⟩) (fun q h => by cases h) dX0_now_4

set_option maxRecDepth 100000 in
set_option maxHeartbeats 4000000 in
/-- WindowMeters() -/
theorem c_X0_init (l : Launch) (dC : Nat → ClassId) (dI : Nat → Nat → Nat) (h0 sz : Nat) : Met l yX0_init wsX0_init ({ frames := 1, cells := 7, slots := 1512, locals := 12 }) (va_Pc [.ref h0] (fun U => U.heap.size = sz ∧ va_P (dC, dI) vwCl [(h0, .inr (0, [.null, .null, .null, .null, .int 0, .null, .null, .int 0, .int 0, .null]))] U.heap ∧ va_K (dC, dI) vwCl [] U ∧ va_D (fun _ => True) [(h0, .inr (0, [.null, .null, .null, .null, .int 0, .null, .null, .int 0, .int 0, .null]))])) (va_Qv (fun u : (Nat → ClassId) × (Nat → Nat) => u.2 0 = h0) (fun u t9 => wmAt dC dI u.1 u.2 (va_A [(h0, .inr (0, [.null, .null, .null, .null, .int 0, .null, .null, .int 0, .int 0, .null]))] sz) (fun _ => 0) (fun _ => 0) (fun _ => 0) (fun _ => 0) 0 (fun _ => 0) (fun _ => 0) 0 0 (fun _ => 0) t9) (va_A [(h0, .inr (0, [.null, .null, .null, .null, .int 0, .null, .null, .int 0, .int 0, .null]))] sz)) 7 1512 (va_A [(h0, .inr (0, [.null, .null, .null, .null, .int 0, .null, .null, .int 0, .int 0, .null]))] sz) := by
  refine Met.ofW (cc := cX0_init) (maxL := 1) (ret := none) (by decide) rfl ?_
  intro p e s m args below meth c s₁ B hml hv
  obtain ⟨rfl, hsz, hP, hK, hD0⟩ := hv
  have hx := B.exec
  have hb := B.bytes
  have hr := B.returns
  have hts := atoms_spec (ws := wsX0_init) B.pre
  have hown : s.vm.findClass RX0 = some m.cls := findClass_of_methodNamed B.named
  have hlocks := B.notSynchronized
  have hin : meth.name = "<init>" := (name_of_methodNamed B.named B.method).1
  subst hsz
  have hin0 : ∀ w ∈ u_ws RX0 TX0 10, w ∈ wsX0_init := fun w h => List.mem_cons_of_mem _ (wiX0 w h)
  have hD := hD0.self (sz := s.heap.size)
  generalize hAe : va_A [(h0, .inr (0, [.null, .null, .null, .null, .int 0, .null, .null, .int 0, .int 0, .null]))] s.heap.size = A at hD ⊢
  have hA : ∀ q : Nat, s.heap.size ≤ q → A q := fun q h => by rw [← hAe]; exact Or.inr h
  have hS : va_S A s.heap s.heap [] := va_S.rf
  have hl := lv_entry ([.ref h0]) (n := 1) (Nat.le_of_ble_eq_true rfl)
  rw [lg_entry_eq]
  generalize (lg_sl ([.ref h0]) ++ List.replicate (1 - (lg_sl ([.ref h0])).length) Slot.unset).toArray = ls at hl ⊢
  have hl : lv_has ls 1 [(0, .ref h0)] := hl
  refine lv_aload_n hx hb dX0_init_0 rfl (lv_at hl 0 rfl) ?_
  refine W.objInit hx hb hown (hts _ (List.mem_cons_of_mem _ mlX0_1)) (hts _ (List.mem_cons_of_mem _ im_obj)) (hts _ (List.mem_cons_of_mem _ kw_obj)) rfl (by rw [hml]; exact hl.1) rfl dX0_init_1 (Nat.le_of_ble_eq_true rfl) (Nat.le_of_ble_eq_true rfl) ?_
  refine W.eq (g2 := F0 m 4 ls []) rfl ?_
  refine lv_aload_n hx hb dX0_init_4 rfl (lv_at hl 0 rfl) ?_
  refine lv_sipush (v := 300) hx hb dX0_init_5 (by decide) ?_
  refine va_newa (atype := .int) (N' := 300) (a0 := (300, .inl (fun _ => 0))) (ty := .int) hx hb (hts _ (List.mem_cons_of_mem _ ac_int)) rfl hK hP hD hS hA (fun _ => rfl) (by decide) (by decide) (by decide) (Nat.le_of_ble_eq_true rfl) (Nat.le_of_ble_eq_true rfl) dX0_init_8 (fun q1 cA1 H hK hP hD hS => ?_)
  have hK : va_K (dC, dI) vwCl [(cA1, .int)] s := hK
  have hP : va_P (dC, dI) vwCl [(h0, .inr (0, [.null, .null, .null, .null, .int 0, .null, .null, .int 0, .int 0, .null])), (q1, .inl (cA1, 300, .inl (fun _ => 0)))] H := hP
  have hD : va_D A [(h0, .inr (0, [.null, .null, .null, .null, .int 0, .null, .null, .int 0, .int 0, .null])), (q1, .inl (cA1, 300, .inl (fun _ => 0)))] := hD
  refine W.widen (k := 1) (n := 300) (Nat.le_of_ble_eq_true rfl) (Nat.le_of_ble_eq_true rfl) ?_
  refine va_putF (D := (dC, dI)) (ci := 0) (v := .ref q1) (ty := .array .int) (C := RX0) (T := TX0) (N := 10) hx hb hts hin0 tyX0 tyX0_ok nmX0 hown hK hP hD hS 0 rfl rfl 0 (by decide) (hts _ (List.mem_cons_of_mem _ flX0_9)) (fun _ h9 => h9) rfl hin rfl (by decide +kernel) rfl rfl (Nat.le_of_ble_eq_true rfl) dX0_init_10 (fun H locs hP hD hS => ?_)
  have hP : va_P (dC, dI) vwCl [(h0, .inr (0, [.ref q1, .null, .null, .null, .int 0, .null, .null, .int 0, .int 0, .null])), (q1, .inl (cA1, 300, .inl (fun _ => 0)))] H := hP
  have hD : va_D A [(h0, .inr (0, [.ref q1, .null, .null, .null, .int 0, .null, .null, .int 0, .int 0, .null])), (q1, .inl (cA1, 300, .inl (fun _ => 0)))] := hD
  refine lv_aload_n hx hb dX0_init_13 rfl (lv_at hl 0 rfl) ?_
  refine lv_sipush (v := 300) hx hb dX0_init_14 (by decide) ?_
  refine va_newa (atype := .int) (N' := 300) (a0 := (300, .inl (fun _ => 0))) (ty := .int) hx hb (hts _ (List.mem_cons_of_mem _ ac_int)) rfl hK hP hD hS hA (fun _ => rfl) (by decide) (by decide) (by decide) (Nat.le_of_ble_eq_true rfl) (Nat.le_of_ble_eq_true rfl) dX0_init_17 (fun q2 cA2 H hK hP hD hS => ?_)
  have hK : va_K (dC, dI) vwCl [(cA1, .int), (cA2, .int)] s := hK
  have hP : va_P (dC, dI) vwCl [(h0, .inr (0, [.ref q1, .null, .null, .null, .int 0, .null, .null, .int 0, .int 0, .null])), (q1, .inl (cA1, 300, .inl (fun _ => 0))), (q2, .inl (cA2, 300, .inl (fun _ => 0)))] H := hP
  have hD : va_D A [(h0, .inr (0, [.ref q1, .null, .null, .null, .int 0, .null, .null, .int 0, .int 0, .null])), (q1, .inl (cA1, 300, .inl (fun _ => 0))), (q2, .inl (cA2, 300, .inl (fun _ => 0)))] := hD
  refine W.widen (k := 2) (n := 600) (Nat.le_of_ble_eq_true rfl) (Nat.le_of_ble_eq_true rfl) ?_
  refine va_putF (D := (dC, dI)) (ci := 0) (v := .ref q2) (ty := .array .int) (C := RX0) (T := TX0) (N := 10) hx hb hts hin0 tyX0 tyX0_ok nmX0 hown hK hP hD hS 0 rfl rfl 1 (by decide) (hts _ (List.mem_cons_of_mem _ flX0_13)) (fun _ h9 => h9) rfl hin rfl (by decide +kernel) rfl rfl (Nat.le_of_ble_eq_true rfl) dX0_init_19 (fun H locs hP hD hS => ?_)
  have hP : va_P (dC, dI) vwCl [(h0, .inr (0, [.ref q1, .ref q2, .null, .null, .int 0, .null, .null, .int 0, .int 0, .null])), (q1, .inl (cA1, 300, .inl (fun _ => 0))), (q2, .inl (cA2, 300, .inl (fun _ => 0)))] H := hP
  have hD : va_D A [(h0, .inr (0, [.ref q1, .ref q2, .null, .null, .int 0, .null, .null, .int 0, .int 0, .null])), (q1, .inl (cA1, 300, .inl (fun _ => 0))), (q2, .inl (cA2, 300, .inl (fun _ => 0)))] := hD
  refine lv_aload_n hx hb dX0_init_22 rfl (lv_at hl 0 rfl) ?_
  refine lv_sipush (v := 300) hx hb dX0_init_23 (by decide) ?_
  refine va_newa (atype := .int) (N' := 300) (a0 := (300, .inl (fun _ => 0))) (ty := .int) hx hb (hts _ (List.mem_cons_of_mem _ ac_int)) rfl hK hP hD hS hA (fun _ => rfl) (by decide) (by decide) (by decide) (Nat.le_of_ble_eq_true rfl) (Nat.le_of_ble_eq_true rfl) dX0_init_26 (fun q3 cA3 H hK hP hD hS => ?_)
  have hK : va_K (dC, dI) vwCl [(cA1, .int), (cA2, .int), (cA3, .int)] s := hK
  have hP : va_P (dC, dI) vwCl [(h0, .inr (0, [.ref q1, .ref q2, .null, .null, .int 0, .null, .null, .int 0, .int 0, .null])), (q1, .inl (cA1, 300, .inl (fun _ => 0))), (q2, .inl (cA2, 300, .inl (fun _ => 0))), (q3, .inl (cA3, 300, .inl (fun _ => 0)))] H := hP
  have hD : va_D A [(h0, .inr (0, [.ref q1, .ref q2, .null, .null, .int 0, .null, .null, .int 0, .int 0, .null])), (q1, .inl (cA1, 300, .inl (fun _ => 0))), (q2, .inl (cA2, 300, .inl (fun _ => 0))), (q3, .inl (cA3, 300, .inl (fun _ => 0)))] := hD
  refine W.widen (k := 3) (n := 900) (Nat.le_of_ble_eq_true rfl) (Nat.le_of_ble_eq_true rfl) ?_
  refine va_putF (D := (dC, dI)) (ci := 0) (v := .ref q3) (ty := .array .int) (C := RX0) (T := TX0) (N := 10) hx hb hts hin0 tyX0 tyX0_ok nmX0 hown hK hP hD hS 0 rfl rfl 2 (by decide) (hts _ (List.mem_cons_of_mem _ flX0_16)) (fun _ h9 => h9) rfl hin rfl (by decide +kernel) rfl rfl (Nat.le_of_ble_eq_true rfl) dX0_init_28 (fun H locs hP hD hS => ?_)
  have hP : va_P (dC, dI) vwCl [(h0, .inr (0, [.ref q1, .ref q2, .ref q3, .null, .int 0, .null, .null, .int 0, .int 0, .null])), (q1, .inl (cA1, 300, .inl (fun _ => 0))), (q2, .inl (cA2, 300, .inl (fun _ => 0))), (q3, .inl (cA3, 300, .inl (fun _ => 0)))] H := hP
  have hD : va_D A [(h0, .inr (0, [.ref q1, .ref q2, .ref q3, .null, .int 0, .null, .null, .int 0, .int 0, .null])), (q1, .inl (cA1, 300, .inl (fun _ => 0))), (q2, .inl (cA2, 300, .inl (fun _ => 0))), (q3, .inl (cA3, 300, .inl (fun _ => 0)))] := hD
  refine lv_aload_n hx hb dX0_init_31 rfl (lv_at hl 0 rfl) ?_
  refine lv_sipush (v := 300) hx hb dX0_init_32 (by decide) ?_
  refine va_newa (atype := .int) (N' := 300) (a0 := (300, .inl (fun _ => 0))) (ty := .int) hx hb (hts _ (List.mem_cons_of_mem _ ac_int)) rfl hK hP hD hS hA (fun _ => rfl) (by decide) (by decide) (by decide) (Nat.le_of_ble_eq_true rfl) (Nat.le_of_ble_eq_true rfl) dX0_init_35 (fun q4 cA4 H hK hP hD hS => ?_)
  have hK : va_K (dC, dI) vwCl [(cA1, .int), (cA2, .int), (cA3, .int), (cA4, .int)] s := hK
  have hP : va_P (dC, dI) vwCl [(h0, .inr (0, [.ref q1, .ref q2, .ref q3, .null, .int 0, .null, .null, .int 0, .int 0, .null])), (q1, .inl (cA1, 300, .inl (fun _ => 0))), (q2, .inl (cA2, 300, .inl (fun _ => 0))), (q3, .inl (cA3, 300, .inl (fun _ => 0))), (q4, .inl (cA4, 300, .inl (fun _ => 0)))] H := hP
  have hD : va_D A [(h0, .inr (0, [.ref q1, .ref q2, .ref q3, .null, .int 0, .null, .null, .int 0, .int 0, .null])), (q1, .inl (cA1, 300, .inl (fun _ => 0))), (q2, .inl (cA2, 300, .inl (fun _ => 0))), (q3, .inl (cA3, 300, .inl (fun _ => 0))), (q4, .inl (cA4, 300, .inl (fun _ => 0)))] := hD
  refine W.widen (k := 4) (n := 1200) (Nat.le_of_ble_eq_true rfl) (Nat.le_of_ble_eq_true rfl) ?_
  refine va_putF (D := (dC, dI)) (ci := 0) (v := .ref q4) (ty := .array .int) (C := RX0) (T := TX0) (N := 10) hx hb hts hin0 tyX0 tyX0_ok nmX0 hown hK hP hD hS 0 rfl rfl 3 (by decide) (hts _ (List.mem_cons_of_mem _ flX0_19)) (fun _ h9 => h9) rfl hin rfl (by decide +kernel) rfl rfl (Nat.le_of_ble_eq_true rfl) dX0_init_37 (fun H locs hP hD hS => ?_)
  have hP : va_P (dC, dI) vwCl [(h0, .inr (0, [.ref q1, .ref q2, .ref q3, .ref q4, .int 0, .null, .null, .int 0, .int 0, .null])), (q1, .inl (cA1, 300, .inl (fun _ => 0))), (q2, .inl (cA2, 300, .inl (fun _ => 0))), (q3, .inl (cA3, 300, .inl (fun _ => 0))), (q4, .inl (cA4, 300, .inl (fun _ => 0)))] H := hP
  have hD : va_D A [(h0, .inr (0, [.ref q1, .ref q2, .ref q3, .ref q4, .int 0, .null, .null, .int 0, .int 0, .null])), (q1, .inl (cA1, 300, .inl (fun _ => 0))), (q2, .inl (cA2, 300, .inl (fun _ => 0))), (q3, .inl (cA3, 300, .inl (fun _ => 0))), (q4, .inl (cA4, 300, .inl (fun _ => 0)))] := hD
  refine lv_aload_n hx hb dX0_init_40 rfl (lv_at hl 0 rfl) ?_
  refine lv_bipush (v := 6) hx hb dX0_init_41 (by decide) ?_
  refine va_newa (atype := .int) (N' := 6) (a0 := (6, .inl (fun _ => 0))) (ty := .int) hx hb (hts _ (List.mem_cons_of_mem _ ac_int)) rfl hK hP hD hS hA (fun _ => rfl) (by decide) (by decide) (by decide) (Nat.le_of_ble_eq_true rfl) (Nat.le_of_ble_eq_true rfl) dX0_init_43 (fun q5 cA5 H hK hP hD hS => ?_)
  have hK : va_K (dC, dI) vwCl [(cA1, .int), (cA2, .int), (cA3, .int), (cA4, .int), (cA5, .int)] s := hK
  have hP : va_P (dC, dI) vwCl [(h0, .inr (0, [.ref q1, .ref q2, .ref q3, .ref q4, .int 0, .null, .null, .int 0, .int 0, .null])), (q1, .inl (cA1, 300, .inl (fun _ => 0))), (q2, .inl (cA2, 300, .inl (fun _ => 0))), (q3, .inl (cA3, 300, .inl (fun _ => 0))), (q4, .inl (cA4, 300, .inl (fun _ => 0))), (q5, .inl (cA5, 6, .inl (fun _ => 0)))] H := hP
  have hD : va_D A [(h0, .inr (0, [.ref q1, .ref q2, .ref q3, .ref q4, .int 0, .null, .null, .int 0, .int 0, .null])), (q1, .inl (cA1, 300, .inl (fun _ => 0))), (q2, .inl (cA2, 300, .inl (fun _ => 0))), (q3, .inl (cA3, 300, .inl (fun _ => 0))), (q4, .inl (cA4, 300, .inl (fun _ => 0))), (q5, .inl (cA5, 6, .inl (fun _ => 0)))] := hD
  refine W.widen (k := 5) (n := 1206) (Nat.le_of_ble_eq_true rfl) (Nat.le_of_ble_eq_true rfl) ?_
  refine va_putF (D := (dC, dI)) (ci := 0) (v := .ref q5) (ty := .array .int) (C := RX0) (T := TX0) (N := 10) hx hb hts hin0 tyX0 tyX0_ok nmX0 hown hK hP hD hS 0 rfl rfl 5 (by decide) (hts _ (List.mem_cons_of_mem _ flX0_22)) (fun _ h9 => h9) rfl hin rfl (by decide +kernel) rfl rfl (Nat.le_of_ble_eq_true rfl) dX0_init_45 (fun H locs hP hD hS => ?_)
  have hP : va_P (dC, dI) vwCl [(h0, .inr (0, [.ref q1, .ref q2, .ref q3, .ref q4, .int 0, .ref q5, .null, .int 0, .int 0, .null])), (q1, .inl (cA1, 300, .inl (fun _ => 0))), (q2, .inl (cA2, 300, .inl (fun _ => 0))), (q3, .inl (cA3, 300, .inl (fun _ => 0))), (q4, .inl (cA4, 300, .inl (fun _ => 0))), (q5, .inl (cA5, 6, .inl (fun _ => 0)))] H := hP
  have hD : va_D A [(h0, .inr (0, [.ref q1, .ref q2, .ref q3, .ref q4, .int 0, .ref q5, .null, .int 0, .int 0, .null])), (q1, .inl (cA1, 300, .inl (fun _ => 0))), (q2, .inl (cA2, 300, .inl (fun _ => 0))), (q3, .inl (cA3, 300, .inl (fun _ => 0))), (q4, .inl (cA4, 300, .inl (fun _ => 0))), (q5, .inl (cA5, 6, .inl (fun _ => 0)))] := hD
  refine lv_aload_n hx hb dX0_init_48 rfl (lv_at hl 0 rfl) ?_
  refine lv_bipush (v := 6) hx hb dX0_init_49 (by decide) ?_
  refine va_newa (atype := .int) (N' := 6) (a0 := (6, .inl (fun _ => 0))) (ty := .int) hx hb (hts _ (List.mem_cons_of_mem _ ac_int)) rfl hK hP hD hS hA (fun _ => rfl) (by decide) (by decide) (by decide) (Nat.le_of_ble_eq_true rfl) (Nat.le_of_ble_eq_true rfl) dX0_init_51 (fun q6 cA6 H hK hP hD hS => ?_)
  have hK : va_K (dC, dI) vwCl [(cA1, .int), (cA2, .int), (cA3, .int), (cA4, .int), (cA5, .int), (cA6, .int)] s := hK
  have hP : va_P (dC, dI) vwCl [(h0, .inr (0, [.ref q1, .ref q2, .ref q3, .ref q4, .int 0, .ref q5, .null, .int 0, .int 0, .null])), (q1, .inl (cA1, 300, .inl (fun _ => 0))), (q2, .inl (cA2, 300, .inl (fun _ => 0))), (q3, .inl (cA3, 300, .inl (fun _ => 0))), (q4, .inl (cA4, 300, .inl (fun _ => 0))), (q5, .inl (cA5, 6, .inl (fun _ => 0))), (q6, .inl (cA6, 6, .inl (fun _ => 0)))] H := hP
  have hD : va_D A [(h0, .inr (0, [.ref q1, .ref q2, .ref q3, .ref q4, .int 0, .ref q5, .null, .int 0, .int 0, .null])), (q1, .inl (cA1, 300, .inl (fun _ => 0))), (q2, .inl (cA2, 300, .inl (fun _ => 0))), (q3, .inl (cA3, 300, .inl (fun _ => 0))), (q4, .inl (cA4, 300, .inl (fun _ => 0))), (q5, .inl (cA5, 6, .inl (fun _ => 0))), (q6, .inl (cA6, 6, .inl (fun _ => 0)))] := hD
  refine W.widen (k := 6) (n := 1212) (Nat.le_of_ble_eq_true rfl) (Nat.le_of_ble_eq_true rfl) ?_
  refine va_putF (D := (dC, dI)) (ci := 0) (v := .ref q6) (ty := .array .int) (C := RX0) (T := TX0) (N := 10) hx hb hts hin0 tyX0 tyX0_ok nmX0 hown hK hP hD hS 0 rfl rfl 6 (by decide) (hts _ (List.mem_cons_of_mem _ flX0_25)) (fun _ h9 => h9) rfl hin rfl (by decide +kernel) rfl rfl (Nat.le_of_ble_eq_true rfl) dX0_init_53 (fun H locs hP hD hS => ?_)
  have hP : va_P (dC, dI) vwCl [(h0, .inr (0, [.ref q1, .ref q2, .ref q3, .ref q4, .int 0, .ref q5, .ref q6, .int 0, .int 0, .null])), (q1, .inl (cA1, 300, .inl (fun _ => 0))), (q2, .inl (cA2, 300, .inl (fun _ => 0))), (q3, .inl (cA3, 300, .inl (fun _ => 0))), (q4, .inl (cA4, 300, .inl (fun _ => 0))), (q5, .inl (cA5, 6, .inl (fun _ => 0))), (q6, .inl (cA6, 6, .inl (fun _ => 0)))] H := hP
  have hD : va_D A [(h0, .inr (0, [.ref q1, .ref q2, .ref q3, .ref q4, .int 0, .ref q5, .ref q6, .int 0, .int 0, .null])), (q1, .inl (cA1, 300, .inl (fun _ => 0))), (q2, .inl (cA2, 300, .inl (fun _ => 0))), (q3, .inl (cA3, 300, .inl (fun _ => 0))), (q4, .inl (cA4, 300, .inl (fun _ => 0))), (q5, .inl (cA5, 6, .inl (fun _ => 0))), (q6, .inl (cA6, 6, .inl (fun _ => 0)))] := hD
  refine lv_aload_n hx hb dX0_init_56 rfl (lv_at hl 0 rfl) ?_
  refine lv_sipush (v := 300) hx hb dX0_init_57 (by decide) ?_
  refine va_newa (atype := .boolean) (N' := 300) (a0 := (300, .inl (fun _ => 0))) (ty := .boolean) hx hb (hts _ (List.mem_cons_of_mem _ ac_boolean)) rfl hK hP hD hS hA (fun _ => rfl) (by decide) (by decide) (by decide) (Nat.le_of_ble_eq_true rfl) (Nat.le_of_ble_eq_true rfl) dX0_init_60 (fun q7 cA7 H hK hP hD hS => ?_)
  have hK : va_K (dC, dI) vwCl [(cA1, .int), (cA2, .int), (cA3, .int), (cA4, .int), (cA5, .int), (cA6, .int), (cA7, .boolean)] s := hK
  have hP : va_P (dC, dI) vwCl [(h0, .inr (0, [.ref q1, .ref q2, .ref q3, .ref q4, .int 0, .ref q5, .ref q6, .int 0, .int 0, .null])), (q1, .inl (cA1, 300, .inl (fun _ => 0))), (q2, .inl (cA2, 300, .inl (fun _ => 0))), (q3, .inl (cA3, 300, .inl (fun _ => 0))), (q4, .inl (cA4, 300, .inl (fun _ => 0))), (q5, .inl (cA5, 6, .inl (fun _ => 0))), (q6, .inl (cA6, 6, .inl (fun _ => 0))), (q7, .inl (cA7, 300, .inl (fun _ => 0)))] H := hP
  have hD : va_D A [(h0, .inr (0, [.ref q1, .ref q2, .ref q3, .ref q4, .int 0, .ref q5, .ref q6, .int 0, .int 0, .null])), (q1, .inl (cA1, 300, .inl (fun _ => 0))), (q2, .inl (cA2, 300, .inl (fun _ => 0))), (q3, .inl (cA3, 300, .inl (fun _ => 0))), (q4, .inl (cA4, 300, .inl (fun _ => 0))), (q5, .inl (cA5, 6, .inl (fun _ => 0))), (q6, .inl (cA6, 6, .inl (fun _ => 0))), (q7, .inl (cA7, 300, .inl (fun _ => 0)))] := hD
  refine W.widen (k := 7) (n := 1512) (Nat.le_of_ble_eq_true rfl) (Nat.le_of_ble_eq_true rfl) ?_
  refine va_putF (D := (dC, dI)) (ci := 0) (v := .ref q7) (ty := .array .boolean) (C := RX0) (T := TX0) (N := 10) hx hb hts hin0 tyX0 tyX0_ok nmX0 hown hK hP hD hS 0 rfl rfl 9 (by decide) (hts _ (List.mem_cons_of_mem _ flX0_28)) (fun _ h9 => h9) rfl hin rfl (by decide +kernel) rfl rfl (Nat.le_of_ble_eq_true rfl) dX0_init_62 (fun H locs hP hD hS => ?_)
  have hP : va_P (dC, dI) vwCl [(h0, .inr (0, [.ref q1, .ref q2, .ref q3, .ref q4, .int 0, .ref q5, .ref q6, .int 0, .int 0, .ref q7])), (q1, .inl (cA1, 300, .inl (fun _ => 0))), (q2, .inl (cA2, 300, .inl (fun _ => 0))), (q3, .inl (cA3, 300, .inl (fun _ => 0))), (q4, .inl (cA4, 300, .inl (fun _ => 0))), (q5, .inl (cA5, 6, .inl (fun _ => 0))), (q6, .inl (cA6, 6, .inl (fun _ => 0))), (q7, .inl (cA7, 300, .inl (fun _ => 0)))] H := hP
  have hD : va_D A [(h0, .inr (0, [.ref q1, .ref q2, .ref q3, .ref q4, .int 0, .ref q5, .ref q6, .int 0, .int 0, .ref q7])), (q1, .inl (cA1, 300, .inl (fun _ => 0))), (q2, .inl (cA2, 300, .inl (fun _ => 0))), (q3, .inl (cA3, 300, .inl (fun _ => 0))), (q4, .inl (cA4, 300, .inl (fun _ => 0))), (q5, .inl (cA5, 6, .inl (fun _ => 0))), (q6, .inl (cA6, 6, .inl (fun _ => 0))), (q7, .inl (cA7, 300, .inl (fun _ => 0)))] := hD
  refine lv_aload_n hx hb dX0_init_65 rfl (lv_at hl 0 rfl) ?_
  refine lv_iconst (v := 0) hx hb dX0_init_66 (by decide) ?_
  refine va_put (D := (dC, dI)) (ci := 0) (v := .int 0) (ty := .int) (C := RX0) (T := TX0) (N := 10) hx hb hts hin0 tyX0 tyX0_ok nmX0 hown hK hP hD hS 0 rfl rfl 4 (by decide) (hts _ (List.mem_cons_of_mem _ flX0_32)) (fun _ h9 => h9) rfl (by decide +kernel) rfl rfl (Nat.le_of_ble_eq_true rfl) dX0_init_67 (fun H locs hP hD hS => ?_)
  have hP : va_P (dC, dI) vwCl [(h0, .inr (0, [.ref q1, .ref q2, .ref q3, .ref q4, .int 0, .ref q5, .ref q6, .int 0, .int 0, .ref q7])), (q1, .inl (cA1, 300, .inl (fun _ => 0))), (q2, .inl (cA2, 300, .inl (fun _ => 0))), (q3, .inl (cA3, 300, .inl (fun _ => 0))), (q4, .inl (cA4, 300, .inl (fun _ => 0))), (q5, .inl (cA5, 6, .inl (fun _ => 0))), (q6, .inl (cA6, 6, .inl (fun _ => 0))), (q7, .inl (cA7, 300, .inl (fun _ => 0)))] H := hP
  have hD : va_D A [(h0, .inr (0, [.ref q1, .ref q2, .ref q3, .ref q4, .int 0, .ref q5, .ref q6, .int 0, .int 0, .ref q7])), (q1, .inl (cA1, 300, .inl (fun _ => 0))), (q2, .inl (cA2, 300, .inl (fun _ => 0))), (q3, .inl (cA3, 300, .inl (fun _ => 0))), (q4, .inl (cA4, 300, .inl (fun _ => 0))), (q5, .inl (cA5, 6, .inl (fun _ => 0))), (q6, .inl (cA6, 6, .inl (fun _ => 0))), (q7, .inl (cA7, 300, .inl (fun _ => 0)))] := hD
  refine lv_aload_n hx hb dX0_init_70 rfl (lv_at hl 0 rfl) ?_
  refine lv_iconst (v := 0) hx hb dX0_init_71 (by decide) ?_
  refine va_put (D := (dC, dI)) (ci := 0) (v := .int 0) (ty := .int) (C := RX0) (T := TX0) (N := 10) hx hb hts hin0 tyX0 tyX0_ok nmX0 hown hK hP hD hS 0 rfl rfl 7 (by decide) (hts _ (List.mem_cons_of_mem _ flX0_36)) (fun _ h9 => h9) rfl (by decide +kernel) rfl rfl (Nat.le_of_ble_eq_true rfl) dX0_init_72 (fun H locs hP hD hS => ?_)
  have hP : va_P (dC, dI) vwCl [(h0, .inr (0, [.ref q1, .ref q2, .ref q3, .ref q4, .int 0, .ref q5, .ref q6, .int 0, .int 0, .ref q7])), (q1, .inl (cA1, 300, .inl (fun _ => 0))), (q2, .inl (cA2, 300, .inl (fun _ => 0))), (q3, .inl (cA3, 300, .inl (fun _ => 0))), (q4, .inl (cA4, 300, .inl (fun _ => 0))), (q5, .inl (cA5, 6, .inl (fun _ => 0))), (q6, .inl (cA6, 6, .inl (fun _ => 0))), (q7, .inl (cA7, 300, .inl (fun _ => 0)))] H := hP
  have hD : va_D A [(h0, .inr (0, [.ref q1, .ref q2, .ref q3, .ref q4, .int 0, .ref q5, .ref q6, .int 0, .int 0, .ref q7])), (q1, .inl (cA1, 300, .inl (fun _ => 0))), (q2, .inl (cA2, 300, .inl (fun _ => 0))), (q3, .inl (cA3, 300, .inl (fun _ => 0))), (q4, .inl (cA4, 300, .inl (fun _ => 0))), (q5, .inl (cA5, 6, .inl (fun _ => 0))), (q6, .inl (cA6, 6, .inl (fun _ => 0))), (q7, .inl (cA7, 300, .inl (fun _ => 0)))] := hD
  refine lv_aload_n hx hb dX0_init_75 rfl (lv_at hl 0 rfl) ?_
  refine lv_iconst (v := 0) hx hb dX0_init_76 (by decide) ?_
  refine va_put (D := (dC, dI)) (ci := 0) (v := .int 0) (ty := .int) (C := RX0) (T := TX0) (N := 10) hx hb hts hin0 tyX0 tyX0_ok nmX0 hown hK hP hD hS 0 rfl rfl 8 (by decide) (hts _ (List.mem_cons_of_mem _ flX0_39)) (fun _ h9 => h9) rfl (by decide +kernel) rfl rfl (Nat.le_of_ble_eq_true rfl) dX0_init_77 (fun H locs hP hD hS => ?_)
  have hP : va_P (dC, dI) vwCl [(h0, .inr (0, [.ref q1, .ref q2, .ref q3, .ref q4, .int 0, .ref q5, .ref q6, .int 0, .int 0, .ref q7])), (q1, .inl (cA1, 300, .inl (fun _ => 0))), (q2, .inl (cA2, 300, .inl (fun _ => 0))), (q3, .inl (cA3, 300, .inl (fun _ => 0))), (q4, .inl (cA4, 300, .inl (fun _ => 0))), (q5, .inl (cA5, 6, .inl (fun _ => 0))), (q6, .inl (cA6, 6, .inl (fun _ => 0))), (q7, .inl (cA7, 300, .inl (fun _ => 0)))] H := hP
  have hD : va_D A [(h0, .inr (0, [.ref q1, .ref q2, .ref q3, .ref q4, .int 0, .ref q5, .ref q6, .int 0, .int 0, .ref q7])), (q1, .inl (cA1, 300, .inl (fun _ => 0))), (q2, .inl (cA2, 300, .inl (fun _ => 0))), (q3, .inl (cA3, 300, .inl (fun _ => 0))), (q4, .inl (cA4, 300, .inl (fun _ => 0))), (q5, .inl (cA5, 6, .inl (fun _ => 0))), (q6, .inl (cA6, 6, .inl (fun _ => 0))), (q7, .inl (cA7, 300, .inl (fun _ => 0)))] := hD
  exact W.vret hx hb hr (fun t9 ht hW => ⟨⟨((fun i => match i with | 1 => cA1 | 2 => cA2 | 3 => cA3 | 4 => cA4 | 5 => cA5 | 6 => cA6 | 7 => cA7 | _ => cA1), (fun i => match i with | 0 => h0 | 1 => q1 | 2 => q2 | 3 => q3 | 4 => q4 | 5 => q5 | 6 => q6 | 7 => q7 | _ => 0)), rfl, rfl, by rw [ht]; exact hP, va_K.moved hW.alike hK, hD⟩, hS.F ht⟩) hS.2.2 dX0_init_80
