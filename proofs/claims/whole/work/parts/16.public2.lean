set_option maxRecDepth 100000 in
set_option maxHeartbeats 4000000 in
/-- tuple(time, key, value) -/
theorem c_tuple (l : Launch) (hlt : l.stackTraces = false) (dC : Nat → ClassId) (dI : Nat → Nat → Nat) (ca : Nat → ClassId) (ad : Nat → Nat) (sz : Nat) (t : Nat → Int32) (k : Nat → Nat) (v : Nat → Int32) (b : Nat → Nat) (n : Nat) (kd : Nat → Int32) (ln : Nat → Int32) (w : Nat) (nw : Int32) (ins : Nat → Int32) (p1 p2 p3 : Int32) (hn : n ≤ 300) : vx_Met l yX0_tuple wsX0_tuple ({ frames := 6, cells := 1, slots := 6, locals := 90 }) (va_Pc [.ref (ad 0), .int p1, .int p2, .int p3] (fun U => wmPre dC dI ca ad sz t k v b n kd ln w nw ins U ∧ xwP (va_A (wm ca ad t k v b n kd ln w nw ins) sz) U)) (va_Qi (fun (r : Int32) (u : Nat × (Nat → Nat)) => (qx_in p1 nw 1000000 ∧ qx_in p2 0 7) ∧ n < 300 ∧ r = nI (n + 1) ∧ u.1 < 8 ∧ p2 = nI u.1 ∧ qc_put (upd v n p3) b n u.2) (fun u t9 => wmAt dC dI ca ad (va_A (wm ca ad t k v b n kd ln w nw ins) sz) (upd t n p1) (vu k n u.1) (upd v n p3) u.2 (n + 1) kd ln w p1 ins t9) (va_A (wm ca ad t k v b n kd ln w nw ins) sz)) (vx_X (fun _ : Unit => True) (fun E _ t9 => ((E = xIAE ∧ ¬ (qx_in p1 nw 1000000 ∧ qx_in p2 0 7)) ∨ (E = xUOE ∧ (qx_in p1 nw 1000000 ∧ qx_in p2 0 7) ∧ n = 300)) ∧ wmAt dC dI ca ad (va_A (wm ca ad t k v b n kd ln w nw ins) sz) t k v b n kd ln w nw ins t9) (va_A (wm ca ad t k v b n kd ln w nw ins) sz)) 1 6 (va_A (wm ca ad t k v b n kd ln w nw ins) sz) := by
  refine vx_ofW (cc := cX0_tuple) (maxL := 5) (ret := (some .int)) (by decide) rfl ?_
  intro p e s m args below meth c s₁ B hml het hv
  obtain ⟨rfl, ⟨hsz, hP, hK, hD0⟩, hX⟩ := hv
  have hx := B.exec
  have hb := B.bytes
  have hr := B.returns
  have hts := atoms_spec (ws := wsX0_tuple) B.pre
  have hown : s.vm.findClass RX0 = some m.cls := findClass_of_methodNamed B.named
  have hlocks := B.notSynchronized
  subst hsz
  have hin0 : ∀ w ∈ u_ws RX0 TX0 10, w ∈ wsX0_tuple := fun w h => List.mem_cons_of_mem _ (wiX0 w h)
  have fl_9 := hts _ (List.mem_cons_of_mem _ flX0_9)
  have fl_13 := hts _ (List.mem_cons_of_mem _ flX0_13)
  have fl_16 := hts _ (List.mem_cons_of_mem _ flX0_16)
  have fl_32 := hts _ (List.mem_cons_of_mem _ flX0_32)
  have fl_39 := hts _ (List.mem_cons_of_mem _ flX0_39)
  have hD := hD0.self (sz := s.heap.size)
  generalize hAe : va_A (wm ca ad t k v b n kd ln w nw ins) s.heap.size = A at hD hX ⊢
  have hA : ∀ q : Nat, s.heap.size ≤ q → A q := fun q h => by rw [← hAe]; exact Or.inr h
  have hS : va_S A s.heap s.heap [] := va_S.rf
  have hl := lv_entry ([.ref (ad 0), .int p1, .int p2, .int p3]) (n := 5) (Nat.le_of_ble_eq_true rfl)
  rw [lg_entry_eq]
  generalize (lg_sl ([.ref (ad 0), .int p1, .int p2, .int p3]) ++ List.replicate (5 - (lg_sl ([.ref (ad 0), .int p1, .int p2, .int p3])).length) Slot.unset).toArray = ls at hl ⊢
  have hl : lv_has ls 5 [(0, .ref (ad 0)), (1, .int p1), (2, .int p2), (3, .int p3)] := hl
  refine lv_iload_n hx hb dX0_tuple_0 rfl (lv_at hl 1 rfl) ?_
  refine lv_aload_n hx hb dX0_tuple_1 rfl (lv_at hl 0 rfl) ?_
  refine va_get (D := (dC, dI)) (ci := 0) (v := .int nw) (C := RX0) (T := TX0) (N := 10) hx hb hts hin0 hown hK hP 0 rfl rfl 8 (by decide) fl_39 (fun _ h9 => h9) rfl dX0_tuple_2 ?_
  refine lv_icmp_lt (tgt := 14) hx hb dX0_tuple_5 (by decide) (fun c_1 => ?_) (fun c_1 => ?_)
  · obtain ⟨sa, hsa⟩ := hX.1.2.1 (57, "the time is below now or above 1000000") (by decide)
    exact vx_throwS (own := RX0) (cls := xIAE) (text := "the time is below now or above 1000000") (names := xNM) (ik := 42) (is := 57) (ic := 46) (A := A) hx hb hlt hown xf_IAE xf_NM (hts _ (List.mem_cons_of_mem _ klX0_42)) (hts _ (List.mem_cons_of_mem _ in_java_lang_IllegalArgumentException)) hsa (xa_IAE hts hX.1) xg_IAE hX.2.1 hX.2.2 hS (by rw [hml]; exact hl.1) dX0_tuple_14 dX0_tuple_17 dX0_tuple_18 dX0_tuple_20 dX0_tuple_23 (fun x h => (het x h).elim) (Nat.le_of_ble_eq_true rfl) (Nat.le_of_ble_eq_true rfl) (Nat.le_of_ble_eq_true rfl) (Nat.le_of_ble_eq_true rfl) hlocks (fun t9 hal hz hq => by
      obtain ⟨gP, gK, gF⟩ := wm_thrown hP hK hS hal hz hq
      exact ⟨(), trivial, ⟨Or.inl ⟨rfl, fun q => Int32.not_lt.mpr q.1.1 c_1⟩, gP, gK, hD⟩, gF⟩) hS.2.2 (Nat.le_of_ble_eq_true rfl) (Nat.le_of_ble_eq_true rfl)
  · refine lv_iload_n hx hb dX0_tuple_8 rfl (lv_at hl 1 rfl) ?_
    refine lv_ldc (v := 1000000) hx hb hown (hts _ (List.mem_cons_of_mem _ cnX0_49)) dX0_tuple_9 ?_
    refine lv_icmp_le (tgt := 24) hx hb dX0_tuple_11 (by decide) (fun c_2 => ?_) (fun c_2 => ?_)
    · refine lv_iload_n hx hb dX0_tuple_24 rfl (lv_at hl 2 rfl) ?_
      refine lv_if_lt (tgt := 34) hx hb dX0_tuple_25 (by decide) (fun c_3 => ?_) (fun c_3 => ?_)
      · obtain ⟨sa, hsa⟩ := hX.1.2.1 (59, "no such key") (by decide)
        exact vx_throwS (own := RX0) (cls := xIAE) (text := "no such key") (names := xNM) (ik := 42) (is := 59) (ic := 46) (A := A) hx hb hlt hown xf_IAE xf_NM (hts _ (List.mem_cons_of_mem _ klX0_42)) (hts _ (List.mem_cons_of_mem _ in_java_lang_IllegalArgumentException)) hsa (xa_IAE hts hX.1) xg_IAE hX.2.1 hX.2.2 hS (by rw [hml]; exact hl.1) dX0_tuple_34 dX0_tuple_37 dX0_tuple_38 dX0_tuple_40 dX0_tuple_43 (fun x h => (het x h).elim) (Nat.le_of_ble_eq_true rfl) (Nat.le_of_ble_eq_true rfl) (Nat.le_of_ble_eq_true rfl) (Nat.le_of_ble_eq_true rfl) hlocks (fun t9 hal hz hq => by
          obtain ⟨gP, gK, gF⟩ := wm_thrown hP hK hS hal hz hq
          exact ⟨(), trivial, ⟨Or.inl ⟨rfl, fun q => (qx_in7.mp q.2).1 c_3⟩, gP, gK, hD⟩, gF⟩) hS.2.2 (Nat.le_of_ble_eq_true rfl) (Nat.le_of_ble_eq_true rfl)
      · refine lv_iload_n hx hb dX0_tuple_28 rfl (lv_at hl 2 rfl) ?_
        refine lv_bipush (v := 8) hx hb dX0_tuple_29 (by decide) ?_
        refine lv_icmp_lt (tgt := 44) hx hb dX0_tuple_31 (by decide) (fun c_4 => ?_) (fun c_4 => ?_)
        · have hG : qx_in p1 nw 1000000 ∧ qx_in p2 0 7 := ⟨⟨Int32.not_lt.mp c_1, c_2⟩, qx_in7.mpr ⟨c_3, c_4⟩⟩
          refine lv_aload_n hx hb dX0_tuple_44 rfl (lv_at hl 0 rfl) ?_
          refine va_get (D := (dC, dI)) (ci := 0) (v := .int (nI n)) (C := RX0) (T := TX0) (N := 10) hx hb hts hin0 hown hK hP 0 rfl rfl 4 (by decide) fl_32 (fun _ h9 => h9) rfl dX0_tuple_45 ?_
          refine lv_sipush (v := 300) hx hb dX0_tuple_48 (by decide) ?_
          refine lv_icmp_lt (tgt := 64) hx hb dX0_tuple_51 (by decide) (fun c_5 => ?_) (fun c_5 => ?_)
          · have hn3 : n < 300 := (nI_ltI (by omega) (by decide)).mp c_5
            obtain ⟨kk, hkk, rfl⟩ := qx_win_yes (w := 8) (by decide) c_3 c_4
            have hl : lv_has ls 5 [(0, .ref (ad 0)), (1, .int p1), (2, .int (nI kk)), (3, .int p3)] := hl
            refine lv_aload_n hx hb dX0_tuple_64 rfl (lv_at hl 0 rfl) ?_
            refine va_get (D := (dC, dI)) (ci := 0) (v := .int (nI n)) (C := RX0) (T := TX0) (N := 10) hx hb hts hin0 hown hK hP 0 rfl rfl 4 (by decide) fl_32 (fun _ h9 => h9) rfl dX0_tuple_65 ?_
            refine lv_istore (lv' := [(4, .int (nI n)), (0, .ref (ad 0)), (1, .int p1), (2, .int (nI kk)), (3, .int p3)]) hx hb dX0_tuple_68 hl (by decide) rfl (fun ls hl => ?_)
            refine lv_aload_n hx hb dX0_tuple_70 rfl (lv_at hl 1 rfl) ?_
            refine va_get (D := (dC, dI)) (ci := 0) (v := .ref (ad 1)) (C := RX0) (T := TX0) (N := 10) hx hb hts hin0 hown hK hP 0 rfl rfl 0 (by decide) fl_9 (fun _ h9 => h9) rfl dX0_tuple_71 ?_
            refine lv_iload hx hb dX0_tuple_74 (lv_at hl 0 rfl) ?_
            refine lv_iload_n hx hb dX0_tuple_76 rfl (lv_at hl 2 rfl) ?_
            refine ya_iast hx hb hK hP hD hS 1 0 rfl rfl (j := n) hn3 (by decide) dX0_tuple_77 (fun H locs hP hD hS => ?_)
            have hP : va_P (dC, dI) vwCl (wm ca ad (upd t n p1) k v b n kd ln w nw ins) H := hP
            have hD : va_D A (wm ca ad (upd t n p1) k v b n kd ln w nw ins) := hD
            refine lv_aload_n hx hb dX0_tuple_78 rfl (lv_at hl 1 rfl) ?_
            refine va_get (D := (dC, dI)) (ci := 0) (v := .ref (ad 2)) (C := RX0) (T := TX0) (N := 10) hx hb hts hin0 hown hK hP 0 rfl rfl 1 (by decide) fl_13 (fun _ h9 => h9) rfl dX0_tuple_79 ?_
            refine lv_iload hx hb dX0_tuple_82 (lv_at hl 0 rfl) ?_
            refine lv_iload_n hx hb dX0_tuple_84 rfl (lv_at hl 3 rfl) ?_
            refine ya_iast hx hb hK hP hD hS 2 1 rfl rfl (j := n) hn3 (by decide) dX0_tuple_85 (fun H locs hP hD hS => ?_)
            rw [vu_upd] at hP hD
            have hD : va_D A (wm ca ad (upd t n p1) (vu k n kk) v b n kd ln w nw ins) := hD
            have hP : va_P (dC, dI) vwCl (wm ca ad (upd t n p1) (vu k n kk) v b n kd ln w nw ins) H := hP
            refine lv_aload_n hx hb dX0_tuple_86 rfl (lv_at hl 1 rfl) ?_
            refine va_get (D := (dC, dI)) (ci := 0) (v := .ref (ad 3)) (C := RX0) (T := TX0) (N := 10) hx hb hts hin0 hown hK hP 0 rfl rfl 2 (by decide) fl_16 (fun _ h9 => h9) rfl dX0_tuple_87 ?_
            refine lv_iload hx hb dX0_tuple_90 (lv_at hl 0 rfl) ?_
            refine lv_iload_n hx hb dX0_tuple_92 rfl (lv_at hl 4 rfl) ?_
            refine ya_iast hx hb hK hP hD hS 3 2 rfl rfl (j := n) hn3 (by decide) dX0_tuple_93 (fun H locs hP hD hS => ?_)
            have hP : va_P (dC, dI) vwCl (wm ca ad (upd t n p1) (vu k n kk) (upd v n p3) b n kd ln w nw ins) H := hP
            have hD : va_D A (wm ca ad (upd t n p1) (vu k n kk) (upd v n p3) b n kd ln w nw ins) := hD
            refine lv_aload_n hx hb dX0_tuple_94 rfl (lv_at hl 1 rfl) ?_
            refine lv_iload hx hb dX0_tuple_95 (lv_at hl 0 rfl) ?_
            have hFc := va_free (wc := wm ca ad (upd t n p1) (vu k n kk) (upd v n p3) b n kd ln w nw ins) hD hS hA [0, 1, 2, 3, 4, 5, 6, 7] rfl
            refine va_callv (va_runV (As := [.int (nI n)]) (rest := []) ⟨hx, hb, hml, hown, hts⟩ (c_placeBySize l dC dI ca ad _ (upd t n p1) (vu k n kk) (upd v n p3) b n kd ln w nw ins n hn3) (cwV 1 hts (gg_V mlX0_63 imX0_placeBySize seX0_placeBySize in_WindowMeters kwX0_placeBySize) rfl rfl rfl (by decide +kernel) ⟨Nat.le_of_ble_eq_true rfl, Nat.le_of_ble_eq_true rfl⟩) (wm_preV hK hP hD [.int (nI n)]) rfl rfl hl.1 rfl (lv_room (Nat.le_of_ble_eq_true rfl)) dX0_tuple_97 ⟨Nat.zero_le _, Nat.zero_le _⟩) hS (fun q _ h => hFc q h) hFc (fun u9 t9 H1 locs ht9 hvm hw9 hB hz1 hk1 hS => ?_)
            obtain ⟨hP, -, hD1⟩ := hB
            rw [ht9] at hP
            have hD := hD1.weaken (fun k q hk h => hFc q.1 h)
            generalize H1 = H at hP hS ⊢
            have hP : va_P (dC, dI) vwCl (wm ca ad (upd t n p1) (vu k n kk) (upd v n p3) u9 n kd ln w nw ins) H := hP
            have hD : va_D A (wm ca ad (upd t n p1) (vu k n kk) (upd v n p3) u9 n kd ln w nw ins) := hD
            refine lv_aload_n hx hb dX0_tuple_100 rfl (lv_at hl 1 rfl) ?_
            refine lv_iload hx hb dX0_tuple_101 (lv_at hl 0 rfl) ?_
            refine lv_iconst (v := 1) hx hb dX0_tuple_103 (by decide) ?_
            refine lv_iadd hx hb dX0_tuple_104 ?_
            rw [nI_1 n]
            refine va_put (D := (dC, dI)) (ci := 0) (v := .int (nI (n + 1))) (ty := .int) (C := RX0) (T := TX0) (N := 10) hx hb hts hin0 tyX0 tyX0_ok nmX0 hown hK hP hD hS 0 rfl rfl 4 (by decide) fl_32 (fun _ h9 => h9) rfl (by decide +kernel) rfl rfl (Nat.le_of_ble_eq_true rfl) dX0_tuple_105 (fun H locs hP hD hS => ?_)
            have hP : va_P (dC, dI) vwCl (wm ca ad (upd t n p1) (vu k n kk) (upd v n p3) u9 (n + 1) kd ln w nw ins) H := hP
            have hD : va_D A (wm ca ad (upd t n p1) (vu k n kk) (upd v n p3) u9 (n + 1) kd ln w nw ins) := hD
            refine lv_aload_n hx hb dX0_tuple_108 rfl (lv_at hl 1 rfl) ?_
            refine lv_iload_n hx hb dX0_tuple_109 rfl (lv_at hl 2 rfl) ?_
            refine va_put (D := (dC, dI)) (ci := 0) (v := .int p1) (ty := .int) (C := RX0) (T := TX0) (N := 10) hx hb hts hin0 tyX0 tyX0_ok nmX0 hown hK hP hD hS 0 rfl rfl 8 (by decide) fl_39 (fun _ h9 => h9) rfl (by decide +kernel) rfl rfl (Nat.le_of_ble_eq_true rfl) dX0_tuple_110 (fun H locs hP hD hS => ?_)
            have hP : va_P (dC, dI) vwCl (wm ca ad (upd t n p1) (vu k n kk) (upd v n p3) u9 (n + 1) kd ln w p1 ins) H := hP
            have hD : va_D A (wm ca ad (upd t n p1) (vu k n kk) (upd v n p3) u9 (n + 1) kd ln w p1 ins) := hD
            refine lv_aload_n hx hb dX0_tuple_113 rfl (lv_at hl 1 rfl) ?_
            refine va_get (D := (dC, dI)) (ci := 0) (v := .int (nI (n + 1))) (C := RX0) (T := TX0) (N := 10) hx hb hts hin0 hown hK hP 0 rfl rfl 4 (by decide) fl_32 (fun _ h9 => h9) rfl dX0_tuple_114 ?_
            refine vx_ret (W.widen (k := 1) (n := 6) (Nat.le_of_ble_eq_true rfl) (Nat.le_of_ble_eq_true rfl) ?_)
            exact W.iret (v := (nI (n + 1))) hx hb hr (fun t9 ht hW => ⟨⟨_, (kk, u9), rfl, ⟨hG, hn3, rfl, hkk, rfl, hw9⟩, by rw [ht]; exact hP, va_K.moved hW.alike hK, hD⟩, hS.F ht⟩) hS.2.2 dX0_tuple_117
          · have hn3 : n = 300 := by
              have h9 : ¬ n < 300 := fun q => c_5 (nI_lt q (by decide))
              omega
            obtain ⟨sa, hsa⟩ := hX.1.2.1 (61, "there are 300 tuples") (by decide)
            exact vx_throwS (own := RX0) (cls := xUOE) (text := "there are 300 tuples") (names := xNM) (ik := 52) (is := 61) (ic := 56) (A := A) hx hb hlt hown xf_UOE xf_NM (hts _ (List.mem_cons_of_mem _ klX0_52)) (hts _ (List.mem_cons_of_mem _ in_java_lang_UnsupportedOperationException)) hsa (xa_UOE hts hX.1) xg_UOE hX.2.1 hX.2.2 hS (by rw [hml]; exact hl.1) dX0_tuple_54 dX0_tuple_57 dX0_tuple_58 dX0_tuple_60 dX0_tuple_63 (fun x h => (het x h).elim) (Nat.le_of_ble_eq_true rfl) (Nat.le_of_ble_eq_true rfl) (Nat.le_of_ble_eq_true rfl) (Nat.le_of_ble_eq_true rfl) hlocks (fun t9 hal hz hq => by
              obtain ⟨gP, gK, gF⟩ := wm_thrown hP hK hS hal hz hq
              exact ⟨(), trivial, ⟨Or.inr ⟨rfl, hG, hn3⟩, gP, gK, hD⟩, gF⟩) hS.2.2 (Nat.le_of_ble_eq_true rfl) (Nat.le_of_ble_eq_true rfl)
        · obtain ⟨sa, hsa⟩ := hX.1.2.1 (59, "no such key") (by decide)
          exact vx_throwS (own := RX0) (cls := xIAE) (text := "no such key") (names := xNM) (ik := 42) (is := 59) (ic := 46) (A := A) hx hb hlt hown xf_IAE xf_NM (hts _ (List.mem_cons_of_mem _ klX0_42)) (hts _ (List.mem_cons_of_mem _ in_java_lang_IllegalArgumentException)) hsa (xa_IAE hts hX.1) xg_IAE hX.2.1 hX.2.2 hS (by rw [hml]; exact hl.1) dX0_tuple_34 dX0_tuple_37 dX0_tuple_38 dX0_tuple_40 dX0_tuple_43 (fun x h => (het x h).elim) (Nat.le_of_ble_eq_true rfl) (Nat.le_of_ble_eq_true rfl) (Nat.le_of_ble_eq_true rfl) (Nat.le_of_ble_eq_true rfl) hlocks (fun t9 hal hz hq => by
            obtain ⟨gP, gK, gF⟩ := wm_thrown hP hK hS hal hz hq
            exact ⟨(), trivial, ⟨Or.inl ⟨rfl, fun q => c_4 (qx_in7.mp q.2).2⟩, gP, gK, hD⟩, gF⟩) hS.2.2 (Nat.le_of_ble_eq_true rfl) (Nat.le_of_ble_eq_true rfl)
    · obtain ⟨sa, hsa⟩ := hX.1.2.1 (57, "the time is below now or above 1000000") (by decide)
      exact vx_throwS (own := RX0) (cls := xIAE) (text := "the time is below now or above 1000000") (names := xNM) (ik := 42) (is := 57) (ic := 46) (A := A) hx hb hlt hown xf_IAE xf_NM (hts _ (List.mem_cons_of_mem _ klX0_42)) (hts _ (List.mem_cons_of_mem _ in_java_lang_IllegalArgumentException)) hsa (xa_IAE hts hX.1) xg_IAE hX.2.1 hX.2.2 hS (by rw [hml]; exact hl.1) dX0_tuple_14 dX0_tuple_17 dX0_tuple_18 dX0_tuple_20 dX0_tuple_23 (fun x h => (het x h).elim) (Nat.le_of_ble_eq_true rfl) (Nat.le_of_ble_eq_true rfl) (Nat.le_of_ble_eq_true rfl) (Nat.le_of_ble_eq_true rfl) hlocks (fun t9 hal hz hq => by
        obtain ⟨gP, gK, gF⟩ := wm_thrown hP hK hS hal hz hq
        exact ⟨(), trivial, ⟨Or.inl ⟨rfl, fun q => c_2 q.1.2⟩, gP, gK, hD⟩, gF⟩) hS.2.2 (Nat.le_of_ble_eq_true rfl) (Nat.le_of_ble_eq_true rfl)

set_option maxRecDepth 100000 in
set_option maxHeartbeats 4000000 in
/-- below(w, v) -/
theorem c_below (l : Launch) (hlt : l.stackTraces = false) (dC : Nat → ClassId) (dI : Nat → Nat → Nat) (ca : Nat → ClassId) (ad : Nat → Nat) (sz : Nat) (t : Nat → Int32) (k : Nat → Nat) (v : Nat → Int32) (b : Nat → Nat) (n : Nat) (kd : Nat → Int32) (ln : Nat → Int32) (w : Nat) (nw : Int32) (ins : Nat → Int32) (p1 p2 : Int32) (hn : n ≤ 300) (hk8 : ∀ j, j < n → k j < 8) (hw6 : w ≤ 6) (hbn : ∀ j, j < n → b j < n) : vx_Met l yX0_below wsX0_below ({ frames := 7, cells := 1, slots := 6, locals := 111 }) (va_Pc [.ref (ad 0), .int p1, .int p2] (fun U => wmPre dC dI ca ad sz t k v b n kd ln w nw ins U ∧ xwP (va_A (wm ca ad t k v b n kd ln w nw ins) sz) U)) (va_Qi (fun (r : Int32) (u : Nat → Int32) => ∃ wi, wi < w ∧ p1 = nI wi ∧ (∀ j, j < n → qc_mk (u j) (qc_in t k n nw (kd wi) (ln wi) j)) ∧ r = nI (qc_bel v u p2 n)) (fun u t9 => wmAt dC dI ca ad (va_A (wm ca ad t k v b n kd ln w nw ins) sz) t k v b n kd ln w nw u t9) (va_A (wm ca ad t k v b n kd ln w nw ins) sz)) (vx_X (fun _ : Unit => True) (fun E _ t9 => (E = xIOB ∧ ¬ qx_win w p1) ∧ wmAt dC dI ca ad (va_A (wm ca ad t k v b n kd ln w nw ins) sz) t k v b n kd ln w nw ins t9) (va_A (wm ca ad t k v b n kd ln w nw ins) sz)) 1 6 (va_A (wm ca ad t k v b n kd ln w nw ins) sz) := by
  refine vx_ofW (cc := cX0_below) (maxL := 5) (ret := (some .int)) (by decide) rfl ?_
  intro p e s m args below meth c s₁ B hml het hv
  obtain ⟨rfl, ⟨hsz, hP, hK, hD0⟩, hX⟩ := hv
  have hx := B.exec
  have hb := B.bytes
  have hr := B.returns
  have hts := atoms_spec (ws := wsX0_below) B.pre
  have hown : s.vm.findClass RX0 = some m.cls := findClass_of_methodNamed B.named
  have hlocks := B.notSynchronized
  subst hsz
  have hin0 : ∀ w ∈ u_ws RX0 TX0 10, w ∈ wsX0_below := fun w h => List.mem_cons_of_mem _ (wiX0 w h)
  have fl_16 := hts _ (List.mem_cons_of_mem _ flX0_16)
  have fl_28 := hts _ (List.mem_cons_of_mem _ flX0_28)
  have fl_32 := hts _ (List.mem_cons_of_mem _ flX0_32)
  have hD := hD0.self (sz := s.heap.size)
  generalize hAe : va_A (wm ca ad t k v b n kd ln w nw ins) s.heap.size = A at hD hX ⊢
  have hA : ∀ q : Nat, s.heap.size ≤ q → A q := fun q h => by rw [← hAe]; exact Or.inr h
  have hS : va_S A s.heap s.heap [] := va_S.rf
  have hl := lv_entry ([.ref (ad 0), .int p1, .int p2]) (n := 5) (Nat.le_of_ble_eq_true rfl)
  rw [lg_entry_eq]
  generalize (lg_sl ([.ref (ad 0), .int p1, .int p2]) ++ List.replicate (5 - (lg_sl ([.ref (ad 0), .int p1, .int p2])).length) Slot.unset).toArray = ls at hl ⊢
  have hl : lv_has ls 5 [(0, .ref (ad 0)), (1, .int p1), (2, .int p2)] := hl
  refine lv_aload_n hx hb dX0_below_0 rfl (lv_at hl 0 rfl) ?_
  refine lv_iload_n hx hb dX0_below_1 rfl (lv_at hl 1 rfl) ?_
  have hFc := va_free (wc := wm ca ad t k v b n kd ln w nw ins) hD hS hA [0, 1, 2, 3, 4, 5, 6, 7] rfl
  refine vx_callv (vx_runV (As := [.int p1]) (rest := []) ⟨hx, hb, hml, hown, hts⟩ (c_checkWindow l hlt dC dI ca ad _ t k v b n kd ln w nw ins p1 hw6) (cwV 1 hts (gg_V mlX0_67 imX0_checkWindow seX0_checkWindow in_WindowMeters kwX0_checkWindow) rfl rfl rfl (by decide +kernel) ⟨Nat.le_of_ble_eq_true rfl, Nat.le_of_ble_eq_true rfl⟩) (wm_preX hK hP hD hS hFc hX [.int p1]) rfl rfl hl.1 rfl (lv_room (Nat.le_of_ble_eq_true rfl)) dX0_below_2 ⟨Nat.le_of_ble_eq_true rfl, Nat.le_of_ble_eq_true rfl⟩) hS (fun q _ h => hFc q h) hFc (fun q _ h => hFc q h) (fun E ce q9 u t9 H1 locs ht9 hvm _ hB hz1 hk1 hS hcell hcv hcl => ?_) (fun u t9 H1 locs ht9 hvm hw_1 hB hz1 hk1 hS => ?_)
  · obtain ⟨hE, hP, -, hD1⟩ := hB
    rw [ht9] at hP
    have hD := hD1.weaken (fun k q hk h => hFc q.1 h)
    exact vx_out (fun x h => (het x h).elim) hlocks hcell hcv hcl (fun t8 ht8 hal => ⟨(), trivial, ⟨hE, by rw [ht8]; exact hP, va_K.moved hal hK, hD⟩, hS.F ht8⟩) hS.2.2 (Nat.le_of_ble_eq_true rfl) (Nat.le_of_ble_eq_true rfl)
  · obtain ⟨hP, -, hD1⟩ := hB
    rw [ht9] at hP
    have hD := hD1.weaken (fun k q hk h => hFc q.1 h)
    generalize H1 = H at hP hS ⊢
    have hP : va_P (dC, dI) vwCl (wm ca ad t k v b n kd ln w nw ins) H := hP
    have hD : va_D A (wm ca ad t k v b n kd ln w nw ins) := hD
    obtain ⟨wi, hwi, rfl⟩ := hw_1
    have hl : lv_has ls 5 [(0, .ref (ad 0)), (1, .int (nI wi)), (2, .int p2)] := hl
    refine lv_aload_n hx hb dX0_below_5 rfl (lv_at hl 0 rfl) ?_
    refine lv_iload_n hx hb dX0_below_6 rfl (lv_at hl 1 rfl) ?_
    have hFc := va_free (wc := wm ca ad t k v b n kd ln w nw ins) hD hS hA [0, 1, 2, 3, 4, 5, 6, 7] rfl
    refine va_callv (va_runV (As := [.int (nI wi)]) (rest := []) ⟨hx, hb, hml, hown, hts⟩ (c_markInside l dC dI ca ad _ t k v b n kd ln w nw ins wi  hn hk8 (by omega)) (cwV 1 hts (gg_V mlX0_72 imX0_markInside seX0_markInside in_WindowMeters kwX0_markInside) rfl rfl rfl (by decide +kernel) ⟨Nat.le_of_ble_eq_true rfl, Nat.le_of_ble_eq_true rfl⟩) (wm_preV hK hP hD [.int (nI wi)]) rfl rfl hl.1 rfl (lv_room (Nat.le_of_ble_eq_true rfl)) dX0_below_7 ⟨Nat.le_of_ble_eq_true rfl, Nat.le_of_ble_eq_true rfl⟩) hS (fun q _ h => hFc q h) hFc (fun u9 t9 H1 locs ht9 hvm hw_2 hB hz1 hk1 hS => ?_)
    obtain ⟨hP, -, hD1⟩ := hB
    rw [ht9] at hP
    have hD := hD1.weaken (fun k q hk h => hFc q.1 h)
    generalize H1 = H at hP hS ⊢
    have hP : va_P (dC, dI) vwCl (wm ca ad t k v b n kd ln w nw u9) H := hP
    have hD : va_D A (wm ca ad t k v b n kd ln w nw u9) := hD
    refine lv_iconst (v := 0) hx hb dX0_below_10 (by decide) ?_
    refine lv_istore_n (lv' := [(3, .int 0), (0, .ref (ad 0)), (1, .int (nI wi)), (2, .int p2)]) hx hb dX0_below_11 rfl hl (by decide) rfl (fun ls hl => ?_)
    refine lv_iconst (v := 0) hx hb dX0_below_12 (by decide) ?_
    refine lv_istore (lv' := [(4, .int 0), (3, .int 0), (0, .ref (ad 0)), (1, .int (nI wi)), (2, .int p2)]) hx hb dX0_below_13 hl (by decide) rfl (fun ls hl => ?_)
    have loop : ∀ (d i : Nat), i ≤ n → n + 1 ≤ i + d → ∀ (ls : Array Slot), lv_has ls 5 [(0, .ref (ad 0)), (1, .int (nI wi)), (2, .int p2), (3, .int (nI (qc_bel v u9 p2 i))), (4, .int (nI i))] → W p l e (headSpec wsX0_below ({ frames := 7, cells := 1, slots := 6, locals := 111 })).room s m ([.ref (ad 0), .int (nI wi), .int p2] : List Value).toArray below meth c H locs 1 6 (vx_MQ below (va_Qi (fun (r : Int32) (u : Nat → Int32) => ∃ wi9, wi9 < w ∧ nI wi = nI wi9 ∧ (∀ j, j < n → qc_mk (u j) (qc_in t k n nw (kd wi9) (ln wi9) j)) ∧ r = nI (qc_bel v u p2 n)) (fun u t9 => wmAt dC dI ca ad A t k v b n kd ln w nw u t9) A) (vx_X (fun _ : Unit => True) (fun E _ t9 => (E = xIOB ∧ ¬ qx_win w (nI wi)) ∧ wmAt dC dI ca ad A t k v b n kd ln w nw ins t9) A) ([.ref (ad 0), .int (nI wi), .int p2] : List Value).toArray s 1 6 A) (F0 m 15 ls []) := by
      intro d
      induction d with
      | zero =>
        intro i hi hfu
        exact absurd hfu (by omega)
      | succ d ih =>
        intro i hi hfu  ls hl
        refine lv_iload hx hb dX0_below_15 (lv_at hl 4 rfl) ?_
        refine lv_aload_n hx hb dX0_below_17 rfl (lv_at hl 0 rfl) ?_
        refine va_get (D := (dC, dI)) (ci := 0) (v := .int (nI n)) (C := RX0) (T := TX0) (N := 10) hx hb hts hin0 hown hK hP 0 rfl rfl 4 (by decide) fl_32 (fun _ h9 => h9) rfl dX0_below_18 ?_
        refine yb_ge (tgt := 54) (by omega) (by omega) hx hb dX0_below_21 (by decide) (fun c_3 => ?_) (fun c_3 => ?_)
        · refine lv_iload_n hx hb dX0_below_54 rfl (lv_at hl 3 rfl) ?_
          obtain rfl : i = n := by omega
          refine vx_ret (W.widen (k := 1) (n := 6) (Nat.le_of_ble_eq_true rfl) (Nat.le_of_ble_eq_true rfl) ?_)
          exact W.iret (v := (nI (qc_bel v u9 p2 i))) hx hb hr (fun t9 ht hW => ⟨⟨_, u9, rfl, ⟨wi, hwi, rfl, hw_2, rfl⟩, by rw [ht]; exact hP, va_K.moved hW.alike hK, hD⟩, hS.F ht⟩) hS.2.2 dX0_below_55
        · refine lv_aload_n hx hb dX0_below_24 rfl (lv_at hl 0 rfl) ?_
          refine va_get (D := (dC, dI)) (ci := 0) (v := .ref (ad 7)) (C := RX0) (T := TX0) (N := 10) hx hb hts hin0 hown hK hP 0 rfl rfl 9 (by decide) fl_28 (fun _ h9 => h9) rfl dX0_below_25 ?_
          refine lv_iload hx hb dX0_below_28 (lv_at hl 4 rfl) ?_
          refine ya_zald hx hb hK hP 7 6 rfl rfl (j := i) (by omega) (by decide) dX0_below_30 ?_
          refine lv_if_eq (tgt := 48) hx hb dX0_below_31 (by decide) (fun c_4 => ?_) (fun c_4 => ?_)
          · refine lv_iinc (v := (nI (i + 1))) (lv' := [(4, .int (nI (i + 1))), (0, .ref (ad 0)), (1, .int (nI wi)), (2, .int p2), (3, .int (nI (qc_bel v u9 p2 i)))]) hx hb dX0_below_48 hl (k := 4) rfl (yn_inc _) (by decide) rfl (fun ls hl => ?_)
            refine lv_goto (tgt := 15) hx hb dX0_below_51 (by decide) ?_
            exact ih (i + 1) (by omega) (by omega) ls (by rw [qc_bel, if_pos c_4]; exact (lv_sub hl [1, 2, 3, 4, 0] rfl))
          · refine lv_aload_n hx hb dX0_below_34 rfl (lv_at hl 0 rfl) ?_
            refine va_get (D := (dC, dI)) (ci := 0) (v := .ref (ad 3)) (C := RX0) (T := TX0) (N := 10) hx hb hts hin0 hown hK hP 0 rfl rfl 2 (by decide) fl_16 (fun _ h9 => h9) rfl dX0_below_35 ?_
            refine lv_iload hx hb dX0_below_38 (lv_at hl 4 rfl) ?_
            refine ya_iald hx hb hK hP 3 2 rfl rfl (j := i) (by omega) (by decide) dX0_below_40 ?_
            refine lv_iload_n hx hb dX0_below_41 rfl (lv_at hl 2 rfl) ?_
            refine lv_icmp_ge (tgt := 48) hx hb dX0_below_42 (by decide) (fun c_5 => ?_) (fun c_5 => ?_)
            · refine lv_iinc (v := (nI (i + 1))) (lv' := [(4, .int (nI (i + 1))), (0, .ref (ad 0)), (1, .int (nI wi)), (2, .int p2), (3, .int (nI (qc_bel v u9 p2 i)))]) hx hb dX0_below_48 hl (k := 4) rfl (yn_inc _) (by decide) rfl (fun ls hl => ?_)
              refine lv_goto (tgt := 15) hx hb dX0_below_51 (by decide) ?_
              exact ih (i + 1) (by omega) (by omega) ls (by rw [qc_bel, if_neg c_4, if_pos c_5]; exact (lv_sub hl [1, 2, 3, 4, 0] rfl))
            · refine lv_iinc (v := (nI ((qc_bel v u9 p2 i) + 1))) (lv' := [(3, .int (nI ((qc_bel v u9 p2 i) + 1))), (0, .ref (ad 0)), (1, .int (nI wi)), (2, .int p2), (4, .int (nI i))]) hx hb dX0_below_45 hl (k := 3) rfl (yn_inc _) (by decide) rfl (fun ls hl => ?_)
              refine lv_iinc (v := (nI (i + 1))) (lv' := [(4, .int (nI (i + 1))), (3, .int (nI ((qc_bel v u9 p2 i) + 1))), (0, .ref (ad 0)), (1, .int (nI wi)), (2, .int p2)]) hx hb dX0_below_48 hl (k := 4) rfl (yn_inc _) (by decide) rfl (fun ls hl => ?_)
              refine lv_goto (tgt := 15) hx hb dX0_below_51 (by decide) ?_
              exact ih (i + 1) (by omega) (by omega) ls (by rw [qc_bel, if_neg c_4, if_neg c_5]; exact (lv_sub hl [2, 3, 4, 1, 0] rfl))
    exact loop (n + 1) 0 (Nat.zero_le n) (by omega) ls (lv_sub hl [2, 3, 4, 1, 0] rfl)

set_option maxRecDepth 100000 in
set_option maxHeartbeats 4000000 in
/-- has(w, i) -/
theorem c_has (l : Launch) (hlt : l.stackTraces = false) (dC : Nat → ClassId) (dI : Nat → Nat → Nat) (ca : Nat → ClassId) (ad : Nat → Nat) (sz : Nat) (t : Nat → Int32) (k : Nat → Nat) (v : Nat → Int32) (b : Nat → Nat) (n : Nat) (kd : Nat → Int32) (ln : Nat → Int32) (w : Nat) (nw : Int32) (ins : Nat → Int32) (p1 p2 : Int32) (hn : n ≤ 300) (hk8 : ∀ j, j < n → k j < 8) (hw6 : w ≤ 6) (hbn : ∀ j, j < n → b j < n) : vx_Met l yX0_has wsX0_has ({ frames := 7, cells := 2, slots := 12, locals := 111 }) (va_Pc [.ref (ad 0), .int p1, .int p2] (fun U => wmPre dC dI ca ad sz t k v b n kd ln w nw ins U ∧ xwP (va_A (wm ca ad t k v b n kd ln w nw ins) sz) U)) (va_Qi (fun (r : Int32) (u : Nat → Int32) => ∃ wi i9, wi < w ∧ p1 = nI wi ∧ i9 < n ∧ p2 = nI i9 ∧ qc_mk r (qc_in t k n nw (kd wi) (ln wi) i9)) (fun u t9 => wmAt dC dI ca ad (va_A (wm ca ad t k v b n kd ln w nw ins) sz) t k v b n kd ln w nw u t9) (va_A (wm ca ad t k v b n kd ln w nw ins) sz)) (vx_X (fun _ : Unit => True) (fun E _ t9 => (E = xIOB ∧ ¬ (qx_win w p1 ∧ qx_win n p2)) ∧ wmAt dC dI ca ad (va_A (wm ca ad t k v b n kd ln w nw ins) sz) t k v b n kd ln w nw ins t9) (va_A (wm ca ad t k v b n kd ln w nw ins) sz)) 2 12 (va_A (wm ca ad t k v b n kd ln w nw ins) sz) := by
  refine vx_ofW (cc := cX0_has) (maxL := 3) (ret := (some .boolean)) (by decide) rfl ?_
  intro p e s m args below meth c s₁ B hml het hv
  obtain ⟨rfl, ⟨hsz, hP, hK, hD0⟩, hX⟩ := hv
  have hx := B.exec
  have hb := B.bytes
  have hr := B.returns
  have hts := atoms_spec (ws := wsX0_has) B.pre
  have hown : s.vm.findClass RX0 = some m.cls := findClass_of_methodNamed B.named
  have hlocks := B.notSynchronized
  subst hsz
  have hin0 : ∀ w ∈ u_ws RX0 TX0 10, w ∈ wsX0_has := fun w h => List.mem_cons_of_mem _ (wiX0 w h)
  have fl_28 := hts _ (List.mem_cons_of_mem _ flX0_28)
  have fl_32 := hts _ (List.mem_cons_of_mem _ flX0_32)
  have hD := hD0.self (sz := s.heap.size)
  generalize hAe : va_A (wm ca ad t k v b n kd ln w nw ins) s.heap.size = A at hD hX ⊢
  have hA : ∀ q : Nat, s.heap.size ≤ q → A q := fun q h => by rw [← hAe]; exact Or.inr h
  have hS : va_S A s.heap s.heap [] := va_S.rf
  have hl := lv_entry ([.ref (ad 0), .int p1, .int p2]) (n := 3) (Nat.le_of_ble_eq_true rfl)
  rw [lg_entry_eq]
  generalize (lg_sl ([.ref (ad 0), .int p1, .int p2]) ++ List.replicate (3 - (lg_sl ([.ref (ad 0), .int p1, .int p2])).length) Slot.unset).toArray = ls at hl ⊢
  have hl : lv_has ls 3 [(0, .ref (ad 0)), (1, .int p1), (2, .int p2)] := hl
  refine lv_aload_n hx hb dX0_has_0 rfl (lv_at hl 0 rfl) ?_
  refine lv_iload_n hx hb dX0_has_1 rfl (lv_at hl 1 rfl) ?_
  have hFc := va_free (wc := wm ca ad t k v b n kd ln w nw ins) hD hS hA [0, 1, 2, 3, 4, 5, 6, 7] rfl
  refine vx_callv (vx_runV (As := [.int p1]) (rest := []) ⟨hx, hb, hml, hown, hts⟩ (c_checkWindow l hlt dC dI ca ad _ t k v b n kd ln w nw ins p1 hw6) (cwV 1 hts (gg_V mlX0_67 imX0_checkWindow seX0_checkWindow in_WindowMeters kwX0_checkWindow) rfl rfl rfl (by decide +kernel) ⟨Nat.le_of_ble_eq_true rfl, Nat.le_of_ble_eq_true rfl⟩) (wm_preX hK hP hD hS hFc hX [.int p1]) rfl rfl hl.1 rfl (lv_room (Nat.le_of_ble_eq_true rfl)) dX0_has_2 ⟨Nat.le_of_ble_eq_true rfl, Nat.le_of_ble_eq_true rfl⟩) hS (fun q _ h => hFc q h) hFc (fun q _ h => hFc q h) (fun E ce q9 u t9 H1 locs ht9 hvm _ hB hz1 hk1 hS hcell hcv hcl => ?_) (fun u t9 H1 locs ht9 hvm hw_1 hB hz1 hk1 hS => ?_)
  · obtain ⟨hE, hP, -, hD1⟩ := hB
    rw [ht9] at hP
    have hD := hD1.weaken (fun k q hk h => hFc q.1 h)
    exact vx_out (fun x h => (het x h).elim) hlocks hcell hcv hcl (fun t8 ht8 hal => ⟨(), trivial, ⟨⟨hE.1, fun q => hE.2 q.1⟩, by rw [ht8]; exact hP, va_K.moved hal hK, hD⟩, hS.F ht8⟩) hS.2.2 (Nat.le_of_ble_eq_true rfl) (Nat.le_of_ble_eq_true rfl)
  · obtain ⟨hP, -, hD1⟩ := hB
    rw [ht9] at hP
    have hD := hD1.weaken (fun k q hk h => hFc q.1 h)
    generalize H1 = H at hP hS ⊢
    have hP : va_P (dC, dI) vwCl (wm ca ad t k v b n kd ln w nw ins) H := hP
    have hD : va_D A (wm ca ad t k v b n kd ln w nw ins) := hD
    obtain ⟨wi, hwi, rfl⟩ := hw_1
    have hl : lv_has ls 3 [(0, .ref (ad 0)), (1, .int (nI wi)), (2, .int p2)] := hl
    refine lv_iload_n hx hb dX0_has_5 rfl (lv_at hl 2 rfl) ?_
    refine lv_if_lt (tgt := 17) hx hb dX0_has_6 (by decide) (fun c_2 => ?_) (fun c_2 => ?_)
    · obtain ⟨sa, hsa⟩ := hX.1.2.1 (104, "no such tuple") (by decide)
      exact vx_throwS (own := RX0) (cls := xIOB) (text := "no such tuple") (names := xNM) (ik := 102) (is := 104) (ic := 106) (A := A) hx hb hlt hown xf_IOB xf_NM (hts _ (List.mem_cons_of_mem _ klX0_102)) (hts _ (List.mem_cons_of_mem _ in_java_lang_IndexOutOfBoundsException)) hsa (xa_IOB hts hX.1) xg_IOB hX.2.1 hX.2.2 hS (by rw [hml]; exact hl.1) dX0_has_17 dX0_has_20 dX0_has_21 dX0_has_23 dX0_has_26 (fun x h => (het x h).elim) (Nat.le_of_ble_eq_true rfl) (Nat.le_of_ble_eq_true rfl) (Nat.le_of_ble_eq_true rfl) (Nat.le_of_ble_eq_true rfl) hlocks (fun t9 hal hz hq => by
        obtain ⟨gP, gK, gF⟩ := wm_thrown hP hK hS hal hz hq
        exact ⟨(), trivial, ⟨⟨rfl, fun q => qx_win_no0 (by omega) c_2 q.2⟩, gP, gK, hD⟩, gF⟩) hS.2.2 (Nat.le_of_ble_eq_true rfl) (Nat.le_of_ble_eq_true rfl)
    · refine lv_iload_n hx hb dX0_has_9 rfl (lv_at hl 2 rfl) ?_
      refine lv_aload_n hx hb dX0_has_10 rfl (lv_at hl 0 rfl) ?_
      refine va_get (D := (dC, dI)) (ci := 0) (v := .int (nI n)) (C := RX0) (T := TX0) (N := 10) hx hb hts hin0 hown hK hP 0 rfl rfl 4 (by decide) fl_32 (fun _ h9 => h9) rfl dX0_has_11 ?_
      refine lv_icmp_lt (tgt := 27) hx hb dX0_has_14 (by decide) (fun c_3 => ?_) (fun c_3 => ?_)
      · obtain ⟨i9, hi9, rfl⟩ := qx_win_yes (w := n) (by omega) c_2 c_3
        have hl : lv_has ls 3 [(0, .ref (ad 0)), (1, .int (nI wi)), (2, .int (nI i9))] := hl
        refine lv_aload_n hx hb dX0_has_27 rfl (lv_at hl 0 rfl) ?_
        refine lv_iload_n hx hb dX0_has_28 rfl (lv_at hl 1 rfl) ?_
        have hFc := va_free (wc := wm ca ad t k v b n kd ln w nw ins) hD hS hA [0, 1, 2, 3, 4, 5, 6, 7] rfl
        refine va_callv (va_runV (As := [.int (nI wi)]) (rest := []) ⟨hx, hb, hml, hown, hts⟩ (c_markInside l dC dI ca ad _ t k v b n kd ln w nw ins wi  hn hk8 (by omega)) (cwV 1 hts (gg_V mlX0_72 imX0_markInside seX0_markInside in_WindowMeters kwX0_markInside) rfl rfl rfl (by decide +kernel) ⟨Nat.le_of_ble_eq_true rfl, Nat.le_of_ble_eq_true rfl⟩) (wm_preV hK hP hD [.int (nI wi)]) rfl rfl hl.1 rfl (lv_room (Nat.le_of_ble_eq_true rfl)) dX0_has_29 ⟨Nat.le_of_ble_eq_true rfl, Nat.le_of_ble_eq_true rfl⟩) hS (fun q _ h => hFc q h) hFc (fun u9 t9 H1 locs ht9 hvm hw_4 hB hz1 hk1 hS => ?_)
        obtain ⟨hP, -, hD1⟩ := hB
        rw [ht9] at hP
        have hD := hD1.weaken (fun k q hk h => hFc q.1 h)
        generalize H1 = H at hP hS ⊢
        have hP : va_P (dC, dI) vwCl (wm ca ad t k v b n kd ln w nw u9) H := hP
        have hD : va_D A (wm ca ad t k v b n kd ln w nw u9) := hD
        refine lv_aload_n hx hb dX0_has_32 rfl (lv_at hl 0 rfl) ?_
        refine va_get (D := (dC, dI)) (ci := 0) (v := .ref (ad 7)) (C := RX0) (T := TX0) (N := 10) hx hb hts hin0 hown hK hP 0 rfl rfl 9 (by decide) fl_28 (fun _ h9 => h9) rfl dX0_has_33 ?_
        refine lv_iload_n hx hb dX0_has_36 rfl (lv_at hl 2 rfl) ?_
        refine ya_zald hx hb hK hP 7 6 rfl rfl (j := i9) (by omega) (by decide) dX0_has_37 ?_
        refine vx_ret (W.widen (k := 2) (n := 12) (Nat.le_of_ble_eq_true rfl) (Nat.le_of_ble_eq_true rfl) ?_)
        exact W.zret (v := (u9 i9)) hx hb hr (yn_nz (hw_4 i9 hi9)) (fun t9 ht hW => ⟨⟨_, u9, rfl, ⟨wi, i9, hwi, rfl, hi9, rfl, hw_4 i9 hi9⟩, by rw [ht]; exact hP, va_K.moved hW.alike hK, hD⟩, hS.F ht⟩) hS.2.2 dX0_has_38
      · obtain ⟨sa, hsa⟩ := hX.1.2.1 (104, "no such tuple") (by decide)
        exact vx_throwS (own := RX0) (cls := xIOB) (text := "no such tuple") (names := xNM) (ik := 102) (is := 104) (ic := 106) (A := A) hx hb hlt hown xf_IOB xf_NM (hts _ (List.mem_cons_of_mem _ klX0_102)) (hts _ (List.mem_cons_of_mem _ in_java_lang_IndexOutOfBoundsException)) hsa (xa_IOB hts hX.1) xg_IOB hX.2.1 hX.2.2 hS (by rw [hml]; exact hl.1) dX0_has_17 dX0_has_20 dX0_has_21 dX0_has_23 dX0_has_26 (fun x h => (het x h).elim) (Nat.le_of_ble_eq_true rfl) (Nat.le_of_ble_eq_true rfl) (Nat.le_of_ble_eq_true rfl) (Nat.le_of_ble_eq_true rfl) hlocks (fun t9 hal hz hq => by
          obtain ⟨gP, gK, gF⟩ := wm_thrown hP hK hS hal hz hq
          exact ⟨(), trivial, ⟨⟨rfl, fun q => qx_win_no1 (by omega) c_3 q.2⟩, gP, gK, hD⟩, gF⟩) hS.2.2 (Nat.le_of_ble_eq_true rfl) (Nat.le_of_ble_eq_true rfl)
