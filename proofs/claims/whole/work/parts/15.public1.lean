set_option maxRecDepth 100000 in
set_option maxHeartbeats 4000000 in
/-- checkWindow(w) -/
theorem c_checkWindow (l : Launch) (hlt : l.stackTraces = false) (dC : Nat → ClassId) (dI : Nat → Nat → Nat) (ca : Nat → ClassId) (ad : Nat → Nat) (sz : Nat) (t : Nat → Int32) (k : Nat → Nat) (v : Nat → Int32) (b : Nat → Nat) (n : Nat) (kd : Nat → Int32) (ln : Nat → Int32) (w : Nat) (nw : Int32) (ins : Nat → Int32) (p1 : Int32) (hw6 : w ≤ 6) : vx_Met l yX0_checkWindow wsX0_checkWindow ({ frames := 6, cells := 1, slots := 6, locals := 90 }) (va_Pc [.ref (ad 0), .int p1] (fun U => wmPre dC dI ca ad sz t k v b n kd ln w nw ins U ∧ xwP (va_A (wm ca ad t k v b n kd ln w nw ins) sz) U)) (va_Qv (fun _ : Unit => qx_win w p1) (fun _ t9 => wmAt dC dI ca ad (va_A (wm ca ad t k v b n kd ln w nw ins) sz) t k v b n kd ln w nw ins t9) (va_A (wm ca ad t k v b n kd ln w nw ins) sz)) (vx_X (fun _ : Unit => True) (fun E _ t9 => (E = xIOB ∧ ¬ qx_win w p1) ∧ wmAt dC dI ca ad (va_A (wm ca ad t k v b n kd ln w nw ins) sz) t k v b n kd ln w nw ins t9) (va_A (wm ca ad t k v b n kd ln w nw ins) sz)) 1 6 (va_A (wm ca ad t k v b n kd ln w nw ins) sz) := by
  refine vx_ofW (cc := cX0_checkWindow) (maxL := 2) (ret := none) (by decide) rfl ?_
  intro p e s m args below meth c s₁ B hml het hv
  obtain ⟨rfl, ⟨hsz, hP, hK, hD0⟩, hX⟩ := hv
  have hx := B.exec
  have hb := B.bytes
  have hr := B.returns
  have hts := atoms_spec (ws := wsX0_checkWindow) B.pre
  have hown : s.vm.findClass RX0 = some m.cls := findClass_of_methodNamed B.named
  have hlocks := B.notSynchronized
  subst hsz
  have hin0 : ∀ w ∈ u_ws RX0 TX0 10, w ∈ wsX0_checkWindow := fun w h => List.mem_cons_of_mem _ (wiX0 w h)
  have fl_36 := hts _ (List.mem_cons_of_mem _ flX0_36)
  have hD := hD0.self (sz := s.heap.size)
  generalize hAe : va_A (wm ca ad t k v b n kd ln w nw ins) s.heap.size = A at hD hX ⊢
  have hA : ∀ q : Nat, s.heap.size ≤ q → A q := fun q h => by rw [← hAe]; exact Or.inr h
  have hS : va_S A s.heap s.heap [] := va_S.rf
  have hl := lv_entry ([.ref (ad 0), .int p1]) (n := 2) (Nat.le_of_ble_eq_true rfl)
  rw [lg_entry_eq]
  generalize (lg_sl ([.ref (ad 0), .int p1]) ++ List.replicate (2 - (lg_sl ([.ref (ad 0), .int p1])).length) Slot.unset).toArray = ls at hl ⊢
  have hl : lv_has ls 2 [(0, .ref (ad 0)), (1, .int p1)] := hl
  refine lv_iload_n hx hb dX0_checkWindow_0 rfl (lv_at hl 1 rfl) ?_
  refine lv_if_lt (tgt := 12) hx hb dX0_checkWindow_1 (by decide) (fun c_1 => ?_) (fun c_1 => ?_)
  · obtain ⟨sa, hsa⟩ := hX.1.2.1 (107, "no such window") (by decide)
    exact vx_throwS (own := RX0) (cls := xIOB) (text := "no such window") (names := xNM) (ik := 102) (is := 107) (ic := 106) (A := A) hx hb hlt hown xf_IOB xf_NM (hts _ (List.mem_cons_of_mem _ klX0_102)) (hts _ (List.mem_cons_of_mem _ in_java_lang_IndexOutOfBoundsException)) hsa (xa_IOB hts hX.1) xg_IOB hX.2.1 hX.2.2 hS (by rw [hml]; exact hl.1) dX0_checkWindow_12 dX0_checkWindow_15 dX0_checkWindow_16 dX0_checkWindow_18 dX0_checkWindow_21 (fun x h => (het x h).elim) (Nat.le_of_ble_eq_true rfl) (Nat.le_of_ble_eq_true rfl) (Nat.le_of_ble_eq_true rfl) (Nat.le_of_ble_eq_true rfl) hlocks (fun t9 hal hz hq => by
      obtain ⟨gP, gK, gF⟩ := wm_thrown hP hK hS hal hz hq
      exact ⟨(), trivial, ⟨⟨rfl, qx_win_no0 (by omega) c_1⟩, gP, gK, hD⟩, gF⟩) hS.2.2 (Nat.le_of_ble_eq_true rfl) (Nat.le_of_ble_eq_true rfl)
  · refine lv_iload_n hx hb dX0_checkWindow_4 rfl (lv_at hl 1 rfl) ?_
    refine lv_aload_n hx hb dX0_checkWindow_5 rfl (lv_at hl 0 rfl) ?_
    refine va_get (D := (dC, dI)) (ci := 0) (v := .int (nI w)) (C := RX0) (T := TX0) (N := 10) hx hb hts hin0 hown hK hP 0 rfl rfl 7 (by decide) fl_36 (fun _ h9 => h9) rfl dX0_checkWindow_6 ?_
    refine lv_icmp_lt (tgt := 22) hx hb dX0_checkWindow_9 (by decide) (fun c_2 => ?_) (fun c_2 => ?_)
    · refine vx_ret (W.widen (k := 1) (n := 6) (Nat.le_of_ble_eq_true rfl) (Nat.le_of_ble_eq_true rfl) ?_)
      exact W.vret hx hb hr (fun t9 ht hW => ⟨⟨(), rfl, qx_win_yes (by omega) c_1 c_2, by rw [ht]; exact hP, va_K.moved hW.alike hK, hD⟩, hS.F ht⟩) hS.2.2 dX0_checkWindow_22
    · obtain ⟨sa, hsa⟩ := hX.1.2.1 (107, "no such window") (by decide)
      exact vx_throwS (own := RX0) (cls := xIOB) (text := "no such window") (names := xNM) (ik := 102) (is := 107) (ic := 106) (A := A) hx hb hlt hown xf_IOB xf_NM (hts _ (List.mem_cons_of_mem _ klX0_102)) (hts _ (List.mem_cons_of_mem _ in_java_lang_IndexOutOfBoundsException)) hsa (xa_IOB hts hX.1) xg_IOB hX.2.1 hX.2.2 hS (by rw [hml]; exact hl.1) dX0_checkWindow_12 dX0_checkWindow_15 dX0_checkWindow_16 dX0_checkWindow_18 dX0_checkWindow_21 (fun x h => (het x h).elim) (Nat.le_of_ble_eq_true rfl) (Nat.le_of_ble_eq_true rfl) (Nat.le_of_ble_eq_true rfl) (Nat.le_of_ble_eq_true rfl) hlocks (fun t9 hal hz hq => by
        obtain ⟨gP, gK, gF⟩ := wm_thrown hP hK hS hal hz hq
        exact ⟨(), trivial, ⟨⟨rfl, qx_win_no1 (by omega) c_2⟩, gP, gK, hD⟩, gF⟩) hS.2.2 (Nat.le_of_ble_eq_true rfl) (Nat.le_of_ble_eq_true rfl)

set_option maxRecDepth 100000 in
set_option maxHeartbeats 4000000 in
/-- window(kind, n) -/
theorem c_window (l : Launch) (hlt : l.stackTraces = false) (dC : Nat → ClassId) (dI : Nat → Nat → Nat) (ca : Nat → ClassId) (ad : Nat → Nat) (sz : Nat) (t : Nat → Int32) (k : Nat → Nat) (v : Nat → Int32) (b : Nat → Nat) (n : Nat) (kd : Nat → Int32) (ln : Nat → Int32) (w : Nat) (nw : Int32) (ins : Nat → Int32) (p1 p2 : Int32) (hw6 : w ≤ 6) : vx_Met l yX0_window wsX0_window ({ frames := 6, cells := 1, slots := 6, locals := 90 }) (va_Pc [.ref (ad 0), .int p1, .int p2] (fun U => wmPre dC dI ca ad sz t k v b n kd ln w nw ins U ∧ xwP (va_A (wm ca ad t k v b n kd ln w nw ins) sz) U)) (va_Qi (fun (r : Int32) (_ : Unit) => (qx_in p1 0 5 ∧ qx_in p2 0 1000000) ∧ w < 6 ∧ r = nI w) (fun _ t9 => wmAt dC dI ca ad (va_A (wm ca ad t k v b n kd ln w nw ins) sz) t k v b n (upd kd w p1) (upd ln w p2) (w + 1) nw ins t9) (va_A (wm ca ad t k v b n kd ln w nw ins) sz)) (vx_X (fun _ : Unit => True) (fun E _ t9 => ((E = xIAE ∧ ¬ (qx_in p1 0 5 ∧ qx_in p2 0 1000000)) ∨ (E = xUOE ∧ (qx_in p1 0 5 ∧ qx_in p2 0 1000000) ∧ w = 6)) ∧ wmAt dC dI ca ad (va_A (wm ca ad t k v b n kd ln w nw ins) sz) t k v b n kd ln w nw ins t9) (va_A (wm ca ad t k v b n kd ln w nw ins) sz)) 1 6 (va_A (wm ca ad t k v b n kd ln w nw ins) sz) := by
  refine vx_ofW (cc := cX0_window) (maxL := 4) (ret := (some .int)) (by decide) rfl ?_
  intro p e s m args below meth c s₁ B hml het hv
  obtain ⟨rfl, ⟨hsz, hP, hK, hD0⟩, hX⟩ := hv
  have hx := B.exec
  have hb := B.bytes
  have hr := B.returns
  have hts := atoms_spec (ws := wsX0_window) B.pre
  have hown : s.vm.findClass RX0 = some m.cls := findClass_of_methodNamed B.named
  have hlocks := B.notSynchronized
  subst hsz
  have hin0 : ∀ w ∈ u_ws RX0 TX0 10, w ∈ wsX0_window := fun w h => List.mem_cons_of_mem _ (wiX0 w h)
  have fl_22 := hts _ (List.mem_cons_of_mem _ flX0_22)
  have fl_25 := hts _ (List.mem_cons_of_mem _ flX0_25)
  have fl_36 := hts _ (List.mem_cons_of_mem _ flX0_36)
  have hD := hD0.self (sz := s.heap.size)
  generalize hAe : va_A (wm ca ad t k v b n kd ln w nw ins) s.heap.size = A at hD hX ⊢
  have hA : ∀ q : Nat, s.heap.size ≤ q → A q := fun q h => by rw [← hAe]; exact Or.inr h
  have hS : va_S A s.heap s.heap [] := va_S.rf
  have hl := lv_entry ([.ref (ad 0), .int p1, .int p2]) (n := 4) (Nat.le_of_ble_eq_true rfl)
  rw [lg_entry_eq]
  generalize (lg_sl ([.ref (ad 0), .int p1, .int p2]) ++ List.replicate (4 - (lg_sl ([.ref (ad 0), .int p1, .int p2])).length) Slot.unset).toArray = ls at hl ⊢
  have hl : lv_has ls 4 [(0, .ref (ad 0)), (1, .int p1), (2, .int p2)] := hl
  refine lv_iload_n hx hb dX0_window_0 rfl (lv_at hl 1 rfl) ?_
  refine lv_if_lt (tgt := 9) hx hb dX0_window_1 (by decide) (fun c_1 => ?_) (fun c_1 => ?_)
  · obtain ⟨sa, hsa⟩ := hX.1.2.1 (44, "no such kind of window") (by decide)
    exact vx_throwS (own := RX0) (cls := xIAE) (text := "no such kind of window") (names := xNM) (ik := 42) (is := 44) (ic := 46) (A := A) hx hb hlt hown xf_IAE xf_NM (hts _ (List.mem_cons_of_mem _ klX0_42)) (hts _ (List.mem_cons_of_mem _ in_java_lang_IllegalArgumentException)) hsa (xa_IAE hts hX.1) xg_IAE hX.2.1 hX.2.2 hS (by rw [hml]; exact hl.1) dX0_window_9 dX0_window_12 dX0_window_13 dX0_window_15 dX0_window_18 (fun x h => (het x h).elim) (Nat.le_of_ble_eq_true rfl) (Nat.le_of_ble_eq_true rfl) (Nat.le_of_ble_eq_true rfl) (Nat.le_of_ble_eq_true rfl) hlocks (fun t9 hal hz hq => by
      obtain ⟨gP, gK, gF⟩ := wm_thrown hP hK hS hal hz hq
      exact ⟨(), trivial, ⟨Or.inl ⟨rfl, fun q => (qx_in0.mp q.1).1 c_1⟩, gP, gK, hD⟩, gF⟩) hS.2.2 (Nat.le_of_ble_eq_true rfl) (Nat.le_of_ble_eq_true rfl)
  · refine lv_iload_n hx hb dX0_window_4 rfl (lv_at hl 1 rfl) ?_
    refine lv_iconst (v := 5) hx hb dX0_window_5 (by decide) ?_
    refine lv_icmp_le (tgt := 19) hx hb dX0_window_6 (by decide) (fun c_2 => ?_) (fun c_2 => ?_)
    · refine lv_iload_n hx hb dX0_window_19 rfl (lv_at hl 2 rfl) ?_
      refine lv_if_lt (tgt := 29) hx hb dX0_window_20 (by decide) (fun c_3 => ?_) (fun c_3 => ?_)
      · obtain ⟨sa, hsa⟩ := hX.1.2.1 (50, "n is not 0 .. 1000000") (by decide)
        exact vx_throwS (own := RX0) (cls := xIAE) (text := "n is not 0 .. 1000000") (names := xNM) (ik := 42) (is := 50) (ic := 46) (A := A) hx hb hlt hown xf_IAE xf_NM (hts _ (List.mem_cons_of_mem _ klX0_42)) (hts _ (List.mem_cons_of_mem _ in_java_lang_IllegalArgumentException)) hsa (xa_IAE hts hX.1) xg_IAE hX.2.1 hX.2.2 hS (by rw [hml]; exact hl.1) dX0_window_29 dX0_window_32 dX0_window_33 dX0_window_35 dX0_window_38 (fun x h => (het x h).elim) (Nat.le_of_ble_eq_true rfl) (Nat.le_of_ble_eq_true rfl) (Nat.le_of_ble_eq_true rfl) (Nat.le_of_ble_eq_true rfl) hlocks (fun t9 hal hz hq => by
          obtain ⟨gP, gK, gF⟩ := wm_thrown hP hK hS hal hz hq
          exact ⟨(), trivial, ⟨Or.inl ⟨rfl, fun q => (qx_in0.mp q.2).1 c_3⟩, gP, gK, hD⟩, gF⟩) hS.2.2 (Nat.le_of_ble_eq_true rfl) (Nat.le_of_ble_eq_true rfl)
      · refine lv_iload_n hx hb dX0_window_23 rfl (lv_at hl 2 rfl) ?_
        refine lv_ldc (v := 1000000) hx hb hown (hts _ (List.mem_cons_of_mem _ cnX0_49)) dX0_window_24 ?_
        refine lv_icmp_le (tgt := 39) hx hb dX0_window_26 (by decide) (fun c_4 => ?_) (fun c_4 => ?_)
        · have hG : qx_in p1 0 5 ∧ qx_in p2 0 1000000 := ⟨qx_in0.mpr ⟨c_1, c_2⟩, qx_in0.mpr ⟨c_3, c_4⟩⟩
          refine lv_aload_n hx hb dX0_window_39 rfl (lv_at hl 0 rfl) ?_
          refine va_get (D := (dC, dI)) (ci := 0) (v := .int (nI w)) (C := RX0) (T := TX0) (N := 10) hx hb hts hin0 hown hK hP 0 rfl rfl 7 (by decide) fl_36 (fun _ h9 => h9) rfl dX0_window_40 ?_
          refine lv_bipush (v := 6) hx hb dX0_window_43 (by decide) ?_
          refine lv_icmp_lt (tgt := 58) hx hb dX0_window_45 (by decide) (fun c_5 => ?_) (fun c_5 => ?_)
          · have hw5 : w < 6 := (nI_ltI (by omega) (by decide)).mp c_5
            refine lv_aload_n hx hb dX0_window_58 rfl (lv_at hl 0 rfl) ?_
            refine va_get (D := (dC, dI)) (ci := 0) (v := .int (nI w)) (C := RX0) (T := TX0) (N := 10) hx hb hts hin0 hown hK hP 0 rfl rfl 7 (by decide) fl_36 (fun _ h9 => h9) rfl dX0_window_59 ?_
            refine lv_istore_n (lv' := [(3, .int (nI w)), (0, .ref (ad 0)), (1, .int p1), (2, .int p2)]) hx hb dX0_window_62 rfl hl (by decide) rfl (fun ls hl => ?_)
            refine lv_aload_n hx hb dX0_window_63 rfl (lv_at hl 1 rfl) ?_
            refine va_get (D := (dC, dI)) (ci := 0) (v := .ref (ad 5)) (C := RX0) (T := TX0) (N := 10) hx hb hts hin0 hown hK hP 0 rfl rfl 5 (by decide) fl_22 (fun _ h9 => h9) rfl dX0_window_64 ?_
            refine lv_iload_n hx hb dX0_window_67 rfl (lv_at hl 0 rfl) ?_
            refine lv_iload_n hx hb dX0_window_68 rfl (lv_at hl 2 rfl) ?_
            refine ya_iast hx hb hK hP hD hS 5 4 rfl rfl (j := w) hw5 (by decide) dX0_window_69 (fun H locs hP hD hS => ?_)
            have hP : va_P (dC, dI) vwCl (wm ca ad t k v b n (upd kd w p1) ln w nw ins) H := hP
            have hD : va_D A (wm ca ad t k v b n (upd kd w p1) ln w nw ins) := hD
            refine lv_aload_n hx hb dX0_window_70 rfl (lv_at hl 1 rfl) ?_
            refine va_get (D := (dC, dI)) (ci := 0) (v := .ref (ad 6)) (C := RX0) (T := TX0) (N := 10) hx hb hts hin0 hown hK hP 0 rfl rfl 6 (by decide) fl_25 (fun _ h9 => h9) rfl dX0_window_71 ?_
            refine lv_iload_n hx hb dX0_window_74 rfl (lv_at hl 0 rfl) ?_
            refine lv_iload_n hx hb dX0_window_75 rfl (lv_at hl 3 rfl) ?_
            refine ya_iast hx hb hK hP hD hS 6 5 rfl rfl (j := w) hw5 (by decide) dX0_window_76 (fun H locs hP hD hS => ?_)
            have hP : va_P (dC, dI) vwCl (wm ca ad t k v b n (upd kd w p1) (upd ln w p2) w nw ins) H := hP
            have hD : va_D A (wm ca ad t k v b n (upd kd w p1) (upd ln w p2) w nw ins) := hD
            refine lv_aload_n hx hb dX0_window_77 rfl (lv_at hl 1 rfl) ?_
            refine lv_iload_n hx hb dX0_window_78 rfl (lv_at hl 0 rfl) ?_
            refine lv_iconst (v := 1) hx hb dX0_window_79 (by decide) ?_
            refine lv_iadd hx hb dX0_window_80 ?_
            rw [nI_1 w]
            refine va_put (D := (dC, dI)) (ci := 0) (v := .int (nI (w + 1))) (ty := .int) (C := RX0) (T := TX0) (N := 10) hx hb hts hin0 tyX0 tyX0_ok nmX0 hown hK hP hD hS 0 rfl rfl 7 (by decide) fl_36 (fun _ h9 => h9) rfl (by decide +kernel) rfl rfl (Nat.le_of_ble_eq_true rfl) dX0_window_81 (fun H locs hP hD hS => ?_)
            have hP : va_P (dC, dI) vwCl (wm ca ad t k v b n (upd kd w p1) (upd ln w p2) (w + 1) nw ins) H := hP
            have hD : va_D A (wm ca ad t k v b n (upd kd w p1) (upd ln w p2) (w + 1) nw ins) := hD
            refine lv_iload_n hx hb dX0_window_84 rfl (lv_at hl 0 rfl) ?_
            refine vx_ret (W.widen (k := 1) (n := 6) (Nat.le_of_ble_eq_true rfl) (Nat.le_of_ble_eq_true rfl) ?_)
            exact W.iret (v := (nI w)) hx hb hr (fun t9 ht hW => ⟨⟨_, (), rfl, ⟨hG, hw5, rfl⟩, by rw [ht]; exact hP, va_K.moved hW.alike hK, hD⟩, hS.F ht⟩) hS.2.2 dX0_window_85
          · have hw5 : w = 6 := by
              have h9 : ¬ w < 6 := fun q => c_5 (nI_lt q (by decide))
              omega
            obtain ⟨sa, hsa⟩ := hX.1.2.1 (54, "there are six windows") (by decide)
            exact vx_throwS (own := RX0) (cls := xUOE) (text := "there are six windows") (names := xNM) (ik := 52) (is := 54) (ic := 56) (A := A) hx hb hlt hown xf_UOE xf_NM (hts _ (List.mem_cons_of_mem _ klX0_52)) (hts _ (List.mem_cons_of_mem _ in_java_lang_UnsupportedOperationException)) hsa (xa_UOE hts hX.1) xg_UOE hX.2.1 hX.2.2 hS (by rw [hml]; exact hl.1) dX0_window_48 dX0_window_51 dX0_window_52 dX0_window_54 dX0_window_57 (fun x h => (het x h).elim) (Nat.le_of_ble_eq_true rfl) (Nat.le_of_ble_eq_true rfl) (Nat.le_of_ble_eq_true rfl) (Nat.le_of_ble_eq_true rfl) hlocks (fun t9 hal hz hq => by
              obtain ⟨gP, gK, gF⟩ := wm_thrown hP hK hS hal hz hq
              exact ⟨(), trivial, ⟨Or.inr ⟨rfl, hG, hw5⟩, gP, gK, hD⟩, gF⟩) hS.2.2 (Nat.le_of_ble_eq_true rfl) (Nat.le_of_ble_eq_true rfl)
        · obtain ⟨sa, hsa⟩ := hX.1.2.1 (50, "n is not 0 .. 1000000") (by decide)
          exact vx_throwS (own := RX0) (cls := xIAE) (text := "n is not 0 .. 1000000") (names := xNM) (ik := 42) (is := 50) (ic := 46) (A := A) hx hb hlt hown xf_IAE xf_NM (hts _ (List.mem_cons_of_mem _ klX0_42)) (hts _ (List.mem_cons_of_mem _ in_java_lang_IllegalArgumentException)) hsa (xa_IAE hts hX.1) xg_IAE hX.2.1 hX.2.2 hS (by rw [hml]; exact hl.1) dX0_window_29 dX0_window_32 dX0_window_33 dX0_window_35 dX0_window_38 (fun x h => (het x h).elim) (Nat.le_of_ble_eq_true rfl) (Nat.le_of_ble_eq_true rfl) (Nat.le_of_ble_eq_true rfl) (Nat.le_of_ble_eq_true rfl) hlocks (fun t9 hal hz hq => by
            obtain ⟨gP, gK, gF⟩ := wm_thrown hP hK hS hal hz hq
            exact ⟨(), trivial, ⟨Or.inl ⟨rfl, fun q => c_4 q.2.2⟩, gP, gK, hD⟩, gF⟩) hS.2.2 (Nat.le_of_ble_eq_true rfl) (Nat.le_of_ble_eq_true rfl)
    · obtain ⟨sa, hsa⟩ := hX.1.2.1 (44, "no such kind of window") (by decide)
      exact vx_throwS (own := RX0) (cls := xIAE) (text := "no such kind of window") (names := xNM) (ik := 42) (is := 44) (ic := 46) (A := A) hx hb hlt hown xf_IAE xf_NM (hts _ (List.mem_cons_of_mem _ klX0_42)) (hts _ (List.mem_cons_of_mem _ in_java_lang_IllegalArgumentException)) hsa (xa_IAE hts hX.1) xg_IAE hX.2.1 hX.2.2 hS (by rw [hml]; exact hl.1) dX0_window_9 dX0_window_12 dX0_window_13 dX0_window_15 dX0_window_18 (fun x h => (het x h).elim) (Nat.le_of_ble_eq_true rfl) (Nat.le_of_ble_eq_true rfl) (Nat.le_of_ble_eq_true rfl) (Nat.le_of_ble_eq_true rfl) hlocks (fun t9 hal hz hq => by
        obtain ⟨gP, gK, gF⟩ := wm_thrown hP hK hS hal hz hq
        exact ⟨(), trivial, ⟨Or.inl ⟨rfl, fun q => c_2 q.1.2⟩, gP, gK, hD⟩, gF⟩) hS.2.2 (Nat.le_of_ble_eq_true rfl) (Nat.le_of_ble_eq_true rfl)

set_option maxRecDepth 100000 in
set_option maxHeartbeats 4000000 in
/-- tick(time) -/
theorem c_tick (l : Launch) (hlt : l.stackTraces = false) (dC : Nat → ClassId) (dI : Nat → Nat → Nat) (ca : Nat → ClassId) (ad : Nat → Nat) (sz : Nat) (t : Nat → Int32) (k : Nat → Nat) (v : Nat → Int32) (b : Nat → Nat) (n : Nat) (kd : Nat → Int32) (ln : Nat → Int32) (w : Nat) (nw : Int32) (ins : Nat → Int32) (p1 : Int32)  : vx_Met l yX0_tick wsX0_tick ({ frames := 6, cells := 1, slots := 6, locals := 90 }) (va_Pc [.ref (ad 0), .int p1] (fun U => wmPre dC dI ca ad sz t k v b n kd ln w nw ins U ∧ xwP (va_A (wm ca ad t k v b n kd ln w nw ins) sz) U)) (va_Qv (fun _ : Unit => qx_in p1 nw 1000000) (fun _ t9 => wmAt dC dI ca ad (va_A (wm ca ad t k v b n kd ln w nw ins) sz) t k v b n kd ln w p1 ins t9) (va_A (wm ca ad t k v b n kd ln w nw ins) sz)) (vx_X (fun _ : Unit => True) (fun E _ t9 => (E = xIAE ∧ ¬ qx_in p1 nw 1000000) ∧ wmAt dC dI ca ad (va_A (wm ca ad t k v b n kd ln w nw ins) sz) t k v b n kd ln w nw ins t9) (va_A (wm ca ad t k v b n kd ln w nw ins) sz)) 1 6 (va_A (wm ca ad t k v b n kd ln w nw ins) sz) := by
  refine vx_ofW (cc := cX0_tick) (maxL := 2) (ret := none) (by decide) rfl ?_
  intro p e s m args below meth c s₁ B hml het hv
  obtain ⟨rfl, ⟨hsz, hP, hK, hD0⟩, hX⟩ := hv
  have hx := B.exec
  have hb := B.bytes
  have hr := B.returns
  have hts := atoms_spec (ws := wsX0_tick) B.pre
  have hown : s.vm.findClass RX0 = some m.cls := findClass_of_methodNamed B.named
  have hlocks := B.notSynchronized
  subst hsz
  have hin0 : ∀ w ∈ u_ws RX0 TX0 10, w ∈ wsX0_tick := fun w h => List.mem_cons_of_mem _ (wiX0 w h)
  have fl_39 := hts _ (List.mem_cons_of_mem _ flX0_39)
  have hD := hD0.self (sz := s.heap.size)
  generalize hAe : va_A (wm ca ad t k v b n kd ln w nw ins) s.heap.size = A at hD hX ⊢
  have hA : ∀ q : Nat, s.heap.size ≤ q → A q := fun q h => by rw [← hAe]; exact Or.inr h
  have hS : va_S A s.heap s.heap [] := va_S.rf
  have hl := lv_entry ([.ref (ad 0), .int p1]) (n := 2) (Nat.le_of_ble_eq_true rfl)
  rw [lg_entry_eq]
  generalize (lg_sl ([.ref (ad 0), .int p1]) ++ List.replicate (2 - (lg_sl ([.ref (ad 0), .int p1])).length) Slot.unset).toArray = ls at hl ⊢
  have hl : lv_has ls 2 [(0, .ref (ad 0)), (1, .int p1)] := hl
  refine lv_iload_n hx hb dX0_tick_0 rfl (lv_at hl 1 rfl) ?_
  refine lv_aload_n hx hb dX0_tick_1 rfl (lv_at hl 0 rfl) ?_
  refine va_get (D := (dC, dI)) (ci := 0) (v := .int nw) (C := RX0) (T := TX0) (N := 10) hx hb hts hin0 hown hK hP 0 rfl rfl 8 (by decide) fl_39 (fun _ h9 => h9) rfl dX0_tick_2 ?_
  refine lv_icmp_lt (tgt := 14) hx hb dX0_tick_5 (by decide) (fun c_1 => ?_) (fun c_1 => ?_)
  · obtain ⟨sa, hsa⟩ := hX.1.2.1 (57, "the time is below now or above 1000000") (by decide)
    exact vx_throwS (own := RX0) (cls := xIAE) (text := "the time is below now or above 1000000") (names := xNM) (ik := 42) (is := 57) (ic := 46) (A := A) hx hb hlt hown xf_IAE xf_NM (hts _ (List.mem_cons_of_mem _ klX0_42)) (hts _ (List.mem_cons_of_mem _ in_java_lang_IllegalArgumentException)) hsa (xa_IAE hts hX.1) xg_IAE hX.2.1 hX.2.2 hS (by rw [hml]; exact hl.1) dX0_tick_14 dX0_tick_17 dX0_tick_18 dX0_tick_20 dX0_tick_23 (fun x h => (het x h).elim) (Nat.le_of_ble_eq_true rfl) (Nat.le_of_ble_eq_true rfl) (Nat.le_of_ble_eq_true rfl) (Nat.le_of_ble_eq_true rfl) hlocks (fun t9 hal hz hq => by
      obtain ⟨gP, gK, gF⟩ := wm_thrown hP hK hS hal hz hq
      exact ⟨(), trivial, ⟨⟨rfl, fun q => Int32.not_lt.mpr q.1 c_1⟩, gP, gK, hD⟩, gF⟩) hS.2.2 (Nat.le_of_ble_eq_true rfl) (Nat.le_of_ble_eq_true rfl)
  · refine lv_iload_n hx hb dX0_tick_8 rfl (lv_at hl 1 rfl) ?_
    refine lv_ldc (v := 1000000) hx hb hown (hts _ (List.mem_cons_of_mem _ cnX0_49)) dX0_tick_9 ?_
    refine lv_icmp_le (tgt := 24) hx hb dX0_tick_11 (by decide) (fun c_2 => ?_) (fun c_2 => ?_)
    · refine lv_aload_n hx hb dX0_tick_24 rfl (lv_at hl 0 rfl) ?_
      refine lv_iload_n hx hb dX0_tick_25 rfl (lv_at hl 1 rfl) ?_
      refine va_put (D := (dC, dI)) (ci := 0) (v := .int p1) (ty := .int) (C := RX0) (T := TX0) (N := 10) hx hb hts hin0 tyX0 tyX0_ok nmX0 hown hK hP hD hS 0 rfl rfl 8 (by decide) fl_39 (fun _ h9 => h9) rfl (by decide +kernel) rfl rfl (Nat.le_of_ble_eq_true rfl) dX0_tick_26 (fun H locs hP hD hS => ?_)
      have hP : va_P (dC, dI) vwCl (wm ca ad t k v b n kd ln w p1 ins) H := hP
      have hD : va_D A (wm ca ad t k v b n kd ln w p1 ins) := hD
      refine vx_ret (W.widen (k := 1) (n := 6) (Nat.le_of_ble_eq_true rfl) (Nat.le_of_ble_eq_true rfl) ?_)
      exact W.vret hx hb hr (fun t9 ht hW => ⟨⟨(), rfl, ⟨Int32.not_lt.mp c_1, c_2⟩, by rw [ht]; exact hP, va_K.moved hW.alike hK, hD⟩, hS.F ht⟩) hS.2.2 dX0_tick_29
    · obtain ⟨sa, hsa⟩ := hX.1.2.1 (57, "the time is below now or above 1000000") (by decide)
      exact vx_throwS (own := RX0) (cls := xIAE) (text := "the time is below now or above 1000000") (names := xNM) (ik := 42) (is := 57) (ic := 46) (A := A) hx hb hlt hown xf_IAE xf_NM (hts _ (List.mem_cons_of_mem _ klX0_42)) (hts _ (List.mem_cons_of_mem _ in_java_lang_IllegalArgumentException)) hsa (xa_IAE hts hX.1) xg_IAE hX.2.1 hX.2.2 hS (by rw [hml]; exact hl.1) dX0_tick_14 dX0_tick_17 dX0_tick_18 dX0_tick_20 dX0_tick_23 (fun x h => (het x h).elim) (Nat.le_of_ble_eq_true rfl) (Nat.le_of_ble_eq_true rfl) (Nat.le_of_ble_eq_true rfl) (Nat.le_of_ble_eq_true rfl) hlocks (fun t9 hal hz hq => by
        obtain ⟨gP, gK, gF⟩ := wm_thrown hP hK hS hal hz hq
        exact ⟨(), trivial, ⟨⟨rfl, fun q => c_2 q.2⟩, gP, gK, hD⟩, gF⟩) hS.2.2 (Nat.le_of_ble_eq_true rfl) (Nat.le_of_ble_eq_true rfl)
