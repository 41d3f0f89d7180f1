set_option maxRecDepth 100000 in
set_option maxHeartbeats 4000000 in
/-- kth(w, k) -/
theorem c_kth (l : Launch) (hlt : l.stackTraces = false) (dC : Nat → ClassId) (dI : Nat → Nat → Nat) (ca : Nat → ClassId) (ad : Nat → Nat) (sz : Nat) (t : Nat → Int32) (k : Nat → Nat) (v : Nat → Int32) (b : Nat → Nat) (n : Nat) (kd : Nat → Int32) (ln : Nat → Int32) (w : Nat) (nw : Int32) (ins : Nat → Int32) (p1 p2 : Int32) (hn : n ≤ 300) (hk8 : ∀ j, j < n → k j < 8) (hw6 : w ≤ 6) (hbn : ∀ j, j < n → b j < n) : vx_Met l yX0_kth wsX0_kth ({ frames := 7, cells := 2, slots := 12, locals := 111 }) (va_Pc [.ref (ad 0), .int p1, .int p2] (fun U => wmPre dC dI ca ad sz t k v b n kd ln w nw ins U ∧ xwP (va_A (wm ca ad t k v b n kd ln w nw ins) sz) U)) (va_Qi (fun (r : Int32) (u : Nat → Int32) => ∃ wi q, wi < w ∧ p1 = nI wi ∧ (∀ j, j < n → qc_mk (u j) (qc_in t k n nw (kd wi) (ln wi) j)) ∧ q < n ∧ u (b q) ≠ 0 ∧ nI (qc_cnb b u q) = p2 ∧ r = v (b q)) (fun u t9 => wmAt dC dI ca ad (va_A (wm ca ad t k v b n kd ln w nw ins) sz) t k v b n kd ln w nw u t9) (va_A (wm ca ad t k v b n kd ln w nw ins) sz)) (vx_X (fun _ : Nat → Int32 => True) (fun E u t9 => ((E = xIOB ∧ ¬ qx_win w p1) ∨ (E = xNSE ∧ ∃ wi, wi < w ∧ p1 = nI wi ∧ (∀ j, j < n → qc_mk (u j) (qc_in t k n nw (kd wi) (ln wi) j)) ∧ ∀ q, q < n → u (b q) ≠ 0 → nI (qc_cnb b u q) ≠ p2)) ∧ wmAt dC dI ca ad (va_A (wm ca ad t k v b n kd ln w nw ins) sz) t k v b n kd ln w nw u t9) (va_A (wm ca ad t k v b n kd ln w nw ins) sz)) 2 12 (va_A (wm ca ad t k v b n kd ln w nw ins) sz) := by
  refine vx_ofW (cc := cX0_kth) (maxL := 4) (ret := (some .int)) (by decide) rfl ?_
  intro p e s m args below meth c s₁ B hml het hv
  obtain ⟨rfl, ⟨hsz, hP, hK, hD0⟩, hX⟩ := hv
  have hx := B.exec
  have hb := B.bytes
  have hr := B.returns
  have hts := atoms_spec (ws := wsX0_kth) B.pre
  have hown : s.vm.findClass RX0 = some m.cls := findClass_of_methodNamed B.named
  have hlocks := B.notSynchronized
  subst hsz
  have hin0 : ∀ w ∈ u_ws RX0 TX0 10, w ∈ wsX0_kth := fun w h => List.mem_cons_of_mem _ (wiX0 w h)
  have fl_16 := hts _ (List.mem_cons_of_mem _ flX0_16)
  have hD := hD0.self (sz := s.heap.size)
  generalize hAe : va_A (wm ca ad t k v b n kd ln w nw ins) s.heap.size = A at hD hX ⊢
  have hA : ∀ q : Nat, s.heap.size ≤ q → A q := fun q h => by rw [← hAe]; exact Or.inr h
  have hS : va_S A s.heap s.heap [] := va_S.rf
  have hl := lv_entry ([.ref (ad 0), .int p1, .int p2]) (n := 4) (Nat.le_of_ble_eq_true rfl)
  rw [lg_entry_eq]
  generalize (lg_sl ([.ref (ad 0), .int p1, .int p2]) ++ List.replicate (4 - (lg_sl ([.ref (ad 0), .int p1, .int p2])).length) Slot.unset).toArray = ls at hl ⊢
  have hl : lv_has ls 4 [(0, .ref (ad 0)), (1, .int p1), (2, .int p2)] := hl
  refine lv_aload_n hx hb dX0_kth_0 rfl (lv_at hl 0 rfl) ?_
  refine lv_iload_n hx hb dX0_kth_1 rfl (lv_at hl 1 rfl) ?_
  have hFc := va_free (wc := wm ca ad t k v b n kd ln w nw ins) hD hS hA [0, 1, 2, 3, 4, 5, 6, 7] rfl
  refine vx_callv (vx_runV (As := [.int p1]) (rest := []) ⟨hx, hb, hml, hown, hts⟩ (c_checkWindow l hlt dC dI ca ad _ t k v b n kd ln w nw ins p1 hw6) (cwV 1 hts (gg_V mlX0_67 imX0_checkWindow seX0_checkWindow in_WindowMeters kwX0_checkWindow) rfl rfl rfl (by decide +kernel) ⟨Nat.le_of_ble_eq_true rfl, Nat.le_of_ble_eq_true rfl⟩) (wm_preX hK hP hD hS hFc hX [.int p1]) rfl rfl hl.1 rfl (lv_room (Nat.le_of_ble_eq_true rfl)) dX0_kth_2 ⟨Nat.le_of_ble_eq_true rfl, Nat.le_of_ble_eq_true rfl⟩) hS (fun q _ h => hFc q h) hFc (fun q _ h => hFc q h) (fun E ce q9 u t9 H1 locs ht9 hvm _ hB hz1 hk1 hS hcell hcv hcl => ?_) (fun u t9 H1 locs ht9 hvm hw_1 hB hz1 hk1 hS => ?_)
  · obtain ⟨hE, hP, -, hD1⟩ := hB
    rw [ht9] at hP
    have hD := hD1.weaken (fun k q hk h => hFc q.1 h)
    exact vx_out (fun x h => (het x h).elim) hlocks hcell hcv hcl (fun t8 ht8 hal => ⟨ins, trivial, ⟨Or.inl hE, by rw [ht8]; exact hP, va_K.moved hal hK, hD⟩, hS.F ht8⟩) hS.2.2 (Nat.le_of_ble_eq_true rfl) (Nat.le_of_ble_eq_true rfl)
  · obtain ⟨hP, -, hD1⟩ := hB
    rw [ht9] at hP
    have hD := hD1.weaken (fun k q hk h => hFc q.1 h)
    generalize H1 = H at hP hS ⊢
    have hP : va_P (dC, dI) vwCl (wm ca ad t k v b n kd ln w nw ins) H := hP
    have hD : va_D A (wm ca ad t k v b n kd ln w nw ins) := hD
    obtain ⟨wi, hwi, rfl⟩ := hw_1
    have hl : lv_has ls 4 [(0, .ref (ad 0)), (1, .int (nI wi)), (2, .int p2)] := hl
    refine lv_aload_n hx hb dX0_kth_5 rfl (lv_at hl 0 rfl) ?_
    refine lv_iload_n hx hb dX0_kth_6 rfl (lv_at hl 1 rfl) ?_
    have hFc := va_free (wc := wm ca ad t k v b n kd ln w nw ins) hD hS hA [0, 1, 2, 3, 4, 5, 6, 7] rfl
    refine va_callv (va_runV (As := [.int (nI wi)]) (rest := []) ⟨hx, hb, hml, hown, hts⟩ (c_markInside l dC dI ca ad _ t k v b n kd ln w nw ins wi  hn hk8 (by omega)) (cwV 1 hts (gg_V mlX0_72 imX0_markInside seX0_markInside in_WindowMeters kwX0_markInside) rfl rfl rfl (by decide +kernel) ⟨Nat.le_of_ble_eq_true rfl, Nat.le_of_ble_eq_true rfl⟩) (wm_preV hK hP hD [.int (nI wi)]) rfl rfl hl.1 rfl (lv_room (Nat.le_of_ble_eq_true rfl)) dX0_kth_7 ⟨Nat.le_of_ble_eq_true rfl, Nat.le_of_ble_eq_true rfl⟩) hS (fun q _ h => hFc q h) hFc (fun u9 t9 H1 locs ht9 hvm hw_2 hB hz1 hk1 hS => ?_)
    obtain ⟨hP, -, hD1⟩ := hB
    rw [ht9] at hP
    have hD := hD1.weaken (fun k q hk h => hFc q.1 h)
    generalize H1 = H at hP hS ⊢
    have hP : va_P (dC, dI) vwCl (wm ca ad t k v b n kd ln w nw u9) H := hP
    have hD : va_D A (wm ca ad t k v b n kd ln w nw u9) := hD
    refine lv_aload_n hx hb dX0_kth_10 rfl (lv_at hl 0 rfl) ?_
    refine lv_iload_n hx hb dX0_kth_11 rfl (lv_at hl 2 rfl) ?_
    refine vp_callSi (W.runV (As := [.int p2]) (rest := []) ⟨hx, hb, hml, hown, hts⟩ (c_findKth l dC dI ca ad _ t k v b n kd ln w nw u9  p2 hn hbn) (cwV 1 hts (gg_V mlX0_88 imX0_findKth seX0_findKth in_WindowMeters kwX0_findKth) rfl rfl rfl (by decide +kernel) ⟨Nat.le_of_ble_eq_true rfl, Nat.le_of_ble_eq_true rfl⟩) (wm_preV hK hP hD [.int p2]) rfl rfl hl.1 rfl (lv_room (Nat.le_of_ble_eq_true rfl)) dX0_kth_12 ⟨Nat.le_of_ble_eq_true rfl, Nat.le_of_ble_eq_true rfl⟩) (fun r_3 hr_4 => ?_)
    refine lv_istore_n (lv' := [(3, .int r_3), (0, .ref (ad 0)), (1, .int (nI wi)), (2, .int p2)]) hx hb dX0_kth_15 rfl hl (by decide) rfl (fun ls hl => ?_)
    refine lv_iload_n hx hb dX0_kth_16 rfl (lv_at hl 0 rfl) ?_
    refine lv_iconst (v := (-1)) hx hb dX0_kth_17 (by decide) ?_
    refine lv_icmp_ne (tgt := 31) hx hb dX0_kth_18 (by decide) (fun c_5 => ?_) (fun c_5 => ?_)
    · rcases hr_4 with ⟨q9, hq9, hf9, hc9, rfl⟩ | ⟨e9, -⟩
      · have hl : lv_has ls 4 [(3, .int (nI (b q9))), (0, .ref (ad 0)), (1, .int (nI wi)), (2, .int p2)] := hl
        refine lv_aload_n hx hb dX0_kth_31 rfl (lv_at hl 1 rfl) ?_
        refine va_get (D := (dC, dI)) (ci := 0) (v := .ref (ad 3)) (C := RX0) (T := TX0) (N := 10) hx hb hts hin0 hown hK hP 0 rfl rfl 2 (by decide) fl_16 (fun _ h9 => h9) rfl dX0_kth_32 ?_
        refine lv_iload_n hx hb dX0_kth_35 rfl (lv_at hl 0 rfl) ?_
        refine ya_iald hx hb hK hP 3 2 rfl rfl (j := (b q9)) (Nat.lt_of_lt_of_le (hbn q9 hq9) hn) (by decide) dX0_kth_36 ?_
        refine vx_ret (W.widen (k := 2) (n := 12) (Nat.le_of_ble_eq_true rfl) (Nat.le_of_ble_eq_true rfl) ?_)
        exact W.iret (v := (v (b q9))) hx hb hr (fun t9 ht hW => ⟨⟨_, u9, rfl, ⟨wi, q9, hwi, rfl, hw_2, hq9, hf9, hc9, rfl⟩, by rw [ht]; exact hP, va_K.moved hW.alike hK, hD⟩, hS.F ht⟩) hS.2.2 dX0_kth_37
      · exact absurd e9 c_5
    · rcases hr_4 with ⟨q9, hq9, -, -, rfl⟩ | ⟨-, hall⟩
      · exact absurd c_5 (yn_m1 (Nat.lt_trans (hbn q9 hq9) (by omega)))
      · obtain ⟨sa, hsa⟩ := hX.1.2.1 (94, "no such value in the window") (by decide)
        exact xn_throw (text := "no such value in the window") (is := 94) (A := A) hx hb hlt hown hts hX.1 hsa hX.2.1 hX.2.2 hS (by rw [hml]; exact hl.1) dX0_kth_21 dX0_kth_24 dX0_kth_25 dX0_kth_27 dX0_kth_30 (fun x h => (het x h).elim) (Nat.le_of_ble_eq_true rfl) (Nat.le_of_ble_eq_true rfl) (Nat.le_of_ble_eq_true rfl) (Nat.le_of_ble_eq_true rfl) hlocks (fun t9 hal hz hq => by
          obtain ⟨gP, gK, gF⟩ := wm_thrown hP hK hS hal hz hq
          exact ⟨u9, trivial, ⟨Or.inr ⟨rfl, wi, hwi, rfl, hw_2, hall⟩, gP, gK, hD⟩, gF⟩) hS.2.2 (Nat.le_of_ble_eq_true rfl) (Nat.le_of_ble_eq_true rfl)

set_option maxRecDepth 100000 in
set_option maxHeartbeats 4000000 in
/-- frequent(w) -/
theorem c_frequent (l : Launch) (hlt : l.stackTraces = false) (dC : Nat → ClassId) (dI : Nat → Nat → Nat) (ca : Nat → ClassId) (ad : Nat → Nat) (sz : Nat) (t : Nat → Int32) (k : Nat → Nat) (v : Nat → Int32) (b : Nat → Nat) (n : Nat) (kd : Nat → Int32) (ln : Nat → Int32) (w : Nat) (nw : Int32) (ins : Nat → Int32) (p1 : Int32) (hn : n ≤ 300) (hk8 : ∀ j, j < n → k j < 8) (hw6 : w ≤ 6) (hbn : ∀ j, j < n → b j < n) : vx_Met l yX0_frequent wsX0_frequent ({ frames := 7, cells := 2, slots := 12, locals := 111 }) (va_Pc [.ref (ad 0), .int p1] (fun U => wmPre dC dI ca ad sz t k v b n kd ln w nw ins U ∧ xwP (va_A (wm ca ad t k v b n kd ln w nw ins) sz) U)) (va_Qi (fun (r : Int32) (u : Nat → Int32) => ∃ wi j9, wi < w ∧ p1 = nI wi ∧ (∀ j, j < n → qc_mk (u j) (qc_in t k n nw (kd wi) (ln wi) j)) ∧ (qc_fmf v b u n).1 = some j9 ∧ r = v j9) (fun u t9 => wmAt dC dI ca ad (va_A (wm ca ad t k v b n kd ln w nw ins) sz) t k v b n kd ln w nw u t9) (va_A (wm ca ad t k v b n kd ln w nw ins) sz)) (vx_X (fun _ : Nat → Int32 => True) (fun E u t9 => ((E = xIOB ∧ ¬ qx_win w p1) ∨ (E = xNSE ∧ ∃ wi, wi < w ∧ p1 = nI wi ∧ (∀ j, j < n → qc_mk (u j) (qc_in t k n nw (kd wi) (ln wi) j)) ∧ (qc_fmf v b u n).1 = none)) ∧ wmAt dC dI ca ad (va_A (wm ca ad t k v b n kd ln w nw ins) sz) t k v b n kd ln w nw u t9) (va_A (wm ca ad t k v b n kd ln w nw ins) sz)) 2 12 (va_A (wm ca ad t k v b n kd ln w nw ins) sz) := by
  refine vx_ofW (cc := cX0_frequent) (maxL := 3) (ret := (some .int)) (by decide) rfl ?_
  intro p e s m args below meth c s₁ B hml het hv
  obtain ⟨rfl, ⟨hsz, hP, hK, hD0⟩, hX⟩ := hv
  have hx := B.exec
  have hb := B.bytes
  have hr := B.returns
  have hts := atoms_spec (ws := wsX0_frequent) B.pre
  have hown : s.vm.findClass RX0 = some m.cls := findClass_of_methodNamed B.named
  have hlocks := B.notSynchronized
  subst hsz
  have hin0 : ∀ w ∈ u_ws RX0 TX0 10, w ∈ wsX0_frequent := fun w h => List.mem_cons_of_mem _ (wiX0 w h)
  have fl_16 := hts _ (List.mem_cons_of_mem _ flX0_16)
  have hD := hD0.self (sz := s.heap.size)
  generalize hAe : va_A (wm ca ad t k v b n kd ln w nw ins) s.heap.size = A at hD hX ⊢
  have hA : ∀ q : Nat, s.heap.size ≤ q → A q := fun q h => by rw [← hAe]; exact Or.inr h
  have hS : va_S A s.heap s.heap [] := va_S.rf
  have hl := lv_entry ([.ref (ad 0), .int p1]) (n := 3) (Nat.le_of_ble_eq_true rfl)
  rw [lg_entry_eq]
  generalize (lg_sl ([.ref (ad 0), .int p1]) ++ List.replicate (3 - (lg_sl ([.ref (ad 0), .int p1])).length) Slot.unset).toArray = ls at hl ⊢
  have hl : lv_has ls 3 [(0, .ref (ad 0)), (1, .int p1)] := hl
  refine lv_aload_n hx hb dX0_frequent_0 rfl (lv_at hl 0 rfl) ?_
  refine lv_iload_n hx hb dX0_frequent_1 rfl (lv_at hl 1 rfl) ?_
  have hFc := va_free (wc := wm ca ad t k v b n kd ln w nw ins) hD hS hA [0, 1, 2, 3, 4, 5, 6, 7] rfl
  refine vx_callv (vx_runV (As := [.int p1]) (rest := []) ⟨hx, hb, hml, hown, hts⟩ (c_checkWindow l hlt dC dI ca ad _ t k v b n kd ln w nw ins p1 hw6) (cwV 1 hts (gg_V mlX0_67 imX0_checkWindow seX0_checkWindow in_WindowMeters kwX0_checkWindow) rfl rfl rfl (by decide +kernel) ⟨Nat.le_of_ble_eq_true rfl, Nat.le_of_ble_eq_true rfl⟩) (wm_preX hK hP hD hS hFc hX [.int p1]) rfl rfl hl.1 rfl (lv_room (Nat.le_of_ble_eq_true rfl)) dX0_frequent_2 ⟨Nat.le_of_ble_eq_true rfl, Nat.le_of_ble_eq_true rfl⟩) hS (fun q _ h => hFc q h) hFc (fun q _ h => hFc q h) (fun E ce q9 u t9 H1 locs ht9 hvm _ hB hz1 hk1 hS hcell hcv hcl => ?_) (fun u t9 H1 locs ht9 hvm hw_1 hB hz1 hk1 hS => ?_)
  · obtain ⟨hE, hP, -, hD1⟩ := hB
    rw [ht9] at hP
    have hD := hD1.weaken (fun k q hk h => hFc q.1 h)
    exact vx_out (fun x h => (het x h).elim) hlocks hcell hcv hcl (fun t8 ht8 hal => ⟨ins, trivial, ⟨Or.inl hE, by rw [ht8]; exact hP, va_K.moved hal hK, hD⟩, hS.F ht8⟩) hS.2.2 (Nat.le_of_ble_eq_true rfl) (Nat.le_of_ble_eq_true rfl)
  · obtain ⟨hP, -, hD1⟩ := hB
    rw [ht9] at hP
    have hD := hD1.weaken (fun k q hk h => hFc q.1 h)
    generalize H1 = H at hP hS ⊢
    have hP : va_P (dC, dI) vwCl (wm ca ad t k v b n kd ln w nw ins) H := hP
    have hD : va_D A (wm ca ad t k v b n kd ln w nw ins) := hD
    obtain ⟨wi, hwi, rfl⟩ := hw_1
    have hl : lv_has ls 3 [(0, .ref (ad 0)), (1, .int (nI wi))] := hl
    refine lv_aload_n hx hb dX0_frequent_5 rfl (lv_at hl 0 rfl) ?_
    refine lv_iload_n hx hb dX0_frequent_6 rfl (lv_at hl 1 rfl) ?_
    have hFc := va_free (wc := wm ca ad t k v b n kd ln w nw ins) hD hS hA [0, 1, 2, 3, 4, 5, 6, 7] rfl
    refine va_callv (va_runV (As := [.int (nI wi)]) (rest := []) ⟨hx, hb, hml, hown, hts⟩ (c_markInside l dC dI ca ad _ t k v b n kd ln w nw ins wi  hn hk8 (by omega)) (cwV 1 hts (gg_V mlX0_72 imX0_markInside seX0_markInside in_WindowMeters kwX0_markInside) rfl rfl rfl (by decide +kernel) ⟨Nat.le_of_ble_eq_true rfl, Nat.le_of_ble_eq_true rfl⟩) (wm_preV hK hP hD [.int (nI wi)]) rfl rfl hl.1 rfl (lv_room (Nat.le_of_ble_eq_true rfl)) dX0_frequent_7 ⟨Nat.le_of_ble_eq_true rfl, Nat.le_of_ble_eq_true rfl⟩) hS (fun q _ h => hFc q h) hFc (fun u9 t9 H1 locs ht9 hvm hw_2 hB hz1 hk1 hS => ?_)
    obtain ⟨hP, -, hD1⟩ := hB
    rw [ht9] at hP
    have hD := hD1.weaken (fun k q hk h => hFc q.1 h)
    generalize H1 = H at hP hS ⊢
    have hP : va_P (dC, dI) vwCl (wm ca ad t k v b n kd ln w nw u9) H := hP
    have hD : va_D A (wm ca ad t k v b n kd ln w nw u9) := hD
    refine lv_aload_n hx hb dX0_frequent_10 rfl (lv_at hl 0 rfl) ?_
    refine vp_callSi (W.runV (As := []) (rest := []) ⟨hx, hb, hml, hown, hts⟩ (c_findMostFrequent l dC dI ca ad _ t k v b n kd ln w nw u9   hn hbn) (cwV 0 hts (gg_V mlX0_97 imX0_findMostFrequent seX0_findMostFrequent in_WindowMeters kwX0_findMostFrequent) rfl rfl rfl (by decide +kernel) ⟨Nat.le_of_ble_eq_true rfl, Nat.le_of_ble_eq_true rfl⟩) (wm_preV hK hP hD []) rfl rfl hl.1 rfl (lv_room (Nat.le_of_ble_eq_true rfl)) dX0_frequent_11 ⟨Nat.le_of_ble_eq_true rfl, Nat.le_of_ble_eq_true rfl⟩) (fun r_3 hr_4 => ?_)
    obtain ⟨o9, ho9⟩ : ∃ o, o = (qc_fmf v b u9 n).1 := ⟨_, rfl⟩
    rw [← ho9] at hr_4
    subst hr_4
    have hin9 := (qc_fmf_in (v := v) (f := u9) hbn n (Nat.le_refl n)).1
    rw [← ho9] at hin9
    refine lv_istore_n (lv' := [(2, .int (qc_o o9)), (0, .ref (ad 0)), (1, .int (nI wi))]) hx hb dX0_frequent_14 rfl hl (by decide) rfl (fun ls hl => ?_)
    refine lv_iload_n hx hb dX0_frequent_15 rfl (lv_at hl 0 rfl) ?_
    refine lv_iconst (v := (-1)) hx hb dX0_frequent_16 (by decide) ?_
    refine lv_icmp_ne (tgt := 30) hx hb dX0_frequent_17 (by decide) (fun c_5 => ?_) (fun c_5 => ?_)
    · obtain ⟨j9, rfl⟩ := qc_o_some c_5
      have hl : lv_has ls 3 [(2, .int (nI j9)), (0, .ref (ad 0)), (1, .int (nI wi))] := hl
      have hj9 : j9 < n := hin9 j9 rfl
      refine lv_aload_n hx hb dX0_frequent_30 rfl (lv_at hl 1 rfl) ?_
      refine va_get (D := (dC, dI)) (ci := 0) (v := .ref (ad 3)) (C := RX0) (T := TX0) (N := 10) hx hb hts hin0 hown hK hP 0 rfl rfl 2 (by decide) fl_16 (fun _ h9 => h9) rfl dX0_frequent_31 ?_
      refine lv_iload_n hx hb dX0_frequent_34 rfl (lv_at hl 0 rfl) ?_
      refine ya_iald hx hb hK hP 3 2 rfl rfl (j := j9) (by omega) (by decide) dX0_frequent_35 ?_
      refine vx_ret (W.widen (k := 2) (n := 12) (Nat.le_of_ble_eq_true rfl) (Nat.le_of_ble_eq_true rfl) ?_)
      exact W.iret (v := (v j9)) hx hb hr (fun t9 ht hW => ⟨⟨_, u9, rfl, ⟨wi, j9, hwi, rfl, hw_2, ho9.symm, rfl⟩, by rw [ht]; exact hP, va_K.moved hW.alike hK, hD⟩, hS.F ht⟩) hS.2.2 dX0_frequent_36
    · obtain rfl := qc_o_none (fun j h => Nat.lt_trans (hin9 j h) (by omega)) c_5
      obtain ⟨sa, hsa⟩ := hX.1.2.1 (100, "no value in the window") (by decide)
      exact xn_throw (text := "no value in the window") (is := 100) (A := A) hx hb hlt hown hts hX.1 hsa hX.2.1 hX.2.2 hS (by rw [hml]; exact hl.1) dX0_frequent_20 dX0_frequent_23 dX0_frequent_24 dX0_frequent_26 dX0_frequent_29 (fun x h => (het x h).elim) (Nat.le_of_ble_eq_true rfl) (Nat.le_of_ble_eq_true rfl) (Nat.le_of_ble_eq_true rfl) (Nat.le_of_ble_eq_true rfl) hlocks (fun t9 hal hz hq => by
        obtain ⟨gP, gK, gF⟩ := wm_thrown hP hK hS hal hz hq
        exact ⟨u9, trivial, ⟨Or.inr ⟨rfl, wi, hwi, rfl, hw_2, ho9.symm⟩, gP, gK, hD⟩, gF⟩) hS.2.2 (Nat.le_of_ble_eq_true rfl) (Nat.le_of_ble_eq_true rfl)
