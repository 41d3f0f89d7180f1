theorem mk_yes {x : Int32} {P : Prop} (h : qc_mk x P) (hp : P) : x = 1 := h.elim (fun g => g.1) (fun g => absurd hp g.2)
theorem mk_no {x : Int32} {P : Prop} (h : qc_mk x P) (hp : ¬ P) : x = 0 := h.elim (fun g => absurd g.2 hp) (fun g => g.1)
theorem mk_z {x : Int32} {P : Prop} (h : qc_mk x P) (c : x = 0) : ¬ P := h.elim (fun g => absurd (g.1.symm.trans c) (by decide)) (fun g => g.2)
theorem mk_nz {x : Int32} {P : Prop} (h : qc_mk x P) (c : ¬ x = 0) : P := h.elim (fun g => g.2) (fun g => absurd g.1 c)
theorem mk_iff {x : Int32} {P Q : Prop} (e : P ↔ Q) (h : qc_mk x P) : qc_mk x Q := h.elim (fun g => Or.inl ⟨g.1, e.mp g.2⟩) (fun g => Or.inr ⟨g.1, fun q => g.2 (e.mpr q)⟩)
theorem mk_bool {x : Int32} {P : Prop} (h : qc_mk x P) : narrow .boolean (.int x) = .int x := yn_nz h
theorem qx_in_pred {w : Nat} (hw : w < 1000) {p1 : Int32} : qx_in p1 0 (nI w - 1) ↔ qx_win w p1 := by
  have e1 : (nI w - 1).toInt = (w : Int) - 1 := pk_sub_toInt (a := w) (b := 1) (by omega) (by decide)
  unfold qx_in
  rw [Int32.le_iff_toInt_le, Int32.le_iff_toInt_le, e1, show (0 : Int32).toInt = 0 from by decide]
  constructor
  · rintro ⟨h1, h2⟩
    refine qx_win_yes (by omega) ?_ ?_
    · rw [Int32.lt_iff_toInt_lt, show (0 : Int32).toInt = 0 from by decide]; omega
    · rw [Int32.lt_iff_toInt_lt, nI_toInt (by omega)]; omega
  · rintro ⟨wi, h1, rfl⟩
    rw [nI_toInt (by omega)]
    omega
/-- RUN, as the model has it -/
def mr_run (t : Nat → Int32) (nw nn : Int32) (N i : Nat) : Prop := ¬ t (N - 1) < nw - nn ∧ ∀ j, i ≤ j → j + 1 < N → ¬ nn < t (j + 1) - t j
def mr_part (nn : Int32) : Int32 := if nn = 0 then 1 else nn
theorem mr_part_ne (nn : Int32) : ¬ mr_part nn = 0 := by
  unfold mr_part
  split
  · decide
  · assumption
def mi_in (t : Nat → Int32) (k : Nat → Nat) (n : Nat) (nw kind nn : Int32) (j : Nat) : Prop :=
  if kind = 0 then ¬ t j < nw - nn else if kind = 1 then ¬ nI j < nI n - nn else if kind = 2 then nI (qc_oc k (k j) (j + 1) n) < nn else
  if kind = 3 then t j / mr_part nn = nw / mr_part nn else if kind = 4 then mr_run t nw nn n j else t j < nw - nn
set_option maxRecDepth 100000 in
set_option maxHeartbeats 4000000 in
/-- window(kind, n) -/
theorem m_window (l : Launch) (dC : Nat → ClassId) (dI : Nat → Nat → Nat) (ca : Nat → ClassId) (ad : Nat → Nat) (sz : Nat) (th : Int32) (t : Nat → Int32) (k : Nat → Nat) (v : Nat → Int32) (n : Nat) (nw : Int32) (w : Nat) (kd : Nat → Int32) (ln : Nat → Int32) (hd : Nat) (so : Nat → Int32) (fq : Nat) (p1 p2 : Int32) (hw6 : w ≤ 6) : Met l yX1_window wsX1_window ({ frames := 1, cells := 0, slots := 0, locals := 22 }) (va_Pc [.ref (ad 0), .int p1, .int p2] (mdPre dC dI ca ad sz th t k v n nw w kd ln hd so fq)) (va_Qi (fun (r : Int32) (u : Int32 × (Nat → Int32) × (Nat → Int32) × Nat) => ((qx_in p1 0 5 ∧ qx_in p2 0 1000000) ∧ w < 6 ∧ u = (0, upd kd w p1, upd ln w p2, w + 1) ∧ r = nI w) ∨ (¬ (qx_in p1 0 5 ∧ qx_in p2 0 1000000) ∧ u = (1, kd, ln, w)) ∨ ((qx_in p1 0 5 ∧ qx_in p2 0 1000000) ∧ w = 6 ∧ u = (2, kd, ln, w))) (fun u t9 => mdAt dC dI ca ad (va_A (md ca ad th t k v n nw w kd ln hd so fq) sz) u.1 t k v n nw u.2.2.2 u.2.1 u.2.2.1 hd so fq t9) (va_A (md ca ad th t k v n nw w kd ln hd so fq) sz)) 0 0 (va_A (md ca ad th t k v n nw w kd ln hd so fq) sz) := by
  refine Met.ofW (cc := cX1_window) (maxL := 3) (ret := (some .int)) (by decide) rfl ?_
  intro p e s m args below meth c s₁ B hml hv
  obtain ⟨rfl, hsz, hP, hK, hD0⟩ := hv
  have hx := B.exec
  have hb := B.bytes
  have hr := B.returns
  have hts := atoms_spec (ws := wsX1_window) B.pre
  have hown : s.vm.findClass RX1 = some m.cls := findClass_of_methodNamed B.named
  have hlocks := B.notSynchronized
  subst hsz
  have hin0 : ∀ w ∈ u_ws RX1 TX1 12, w ∈ wsX1_window := fun w h => List.mem_cons_of_mem _ (wiX1 w h)
  have fl_19 := hts _ (List.mem_cons_of_mem _ flX1_19)
  have fl_22 := hts _ (List.mem_cons_of_mem _ flX1_22)
  have fl_38 := hts _ (List.mem_cons_of_mem _ flX1_38)
  have hD := hD0.self (sz := s.heap.size)
  generalize hAe : va_A (md ca ad th t k v n nw w kd ln hd so fq) s.heap.size = A at hD ⊢
  have hA : ∀ q : Nat, s.heap.size ≤ q → A q := fun q h => by rw [← hAe]; exact Or.inr h
  have hS : va_S A s.heap s.heap [] := va_S.rf
  have hl := lv_entry ([.ref (ad 0), .int p1, .int p2]) (n := 3) (Nat.le_of_ble_eq_true rfl)
  rw [lg_entry_eq]
  generalize (lg_sl ([.ref (ad 0), .int p1, .int p2]) ++ List.replicate (3 - (lg_sl ([.ref (ad 0), .int p1, .int p2])).length) Slot.unset).toArray = ls at hl ⊢
  have hl : lv_has ls 3 [(0, .ref (ad 0)), (1, .int p1), (2, .int p2)] := hl
  refine lv_aload_n hx hb dX1_window_0 rfl (lv_at hl 0 rfl) ?_
  refine lv_iload_n hx hb dX1_window_1 rfl (lv_at hl 1 rfl) ?_
  refine lv_iconst (v := 0) hx hb dX1_window_2 (by decide) ?_
  refine lv_iconst (v := 5) hx hb dX1_window_3 (by decide) ?_
  refine vp_callSi (W.runS (As := [.int p1, .int 0, .int 5]) (rest := [.ref (ad 0)]) ⟨hx, hb, hml, hown, hts⟩ (m_in l p1 0 5) (va_cwS 3 hts (gg_S mlX1_41 stX1_in in_WindowMetersModel kwX1_in) rfl rfl rfl (by decide +kernel) ⟨Nat.le_of_ble_eq_true rfl, Nat.le_of_ble_eq_true rfl⟩) preEq rfl rfl hl.1 rfl (lv_room (Nat.le_of_ble_eq_true rfl)) dX1_window_4 ⟨Nat.le_of_ble_eq_true rfl, Nat.le_of_ble_eq_true rfl⟩) (fun r_1 hr_2 => ?_)
  refine lv_if_eq (tgt := 20) hx hb dX1_window_7 (by decide) (fun c_3 => ?_) (fun c_3 => ?_)
  · refine lv_iconst (v := 1) hx hb dX1_window_20 (by decide) ?_
    refine lv_goto (tgt := 25) hx hb dX1_window_21 (by decide) ?_
    refine lv_aload_n hx hb dX1_window_25 rfl (lv_at hl 0 rfl) ?_
    refine va_get (D := (dC, dI)) (ci := 1) (v := .int (nI w)) (C := RX1) (T := TX1) (N := 12) hx hb hts hin0 hown hK hP 0 rfl rfl 6 (by decide) fl_38 (fun _ h9 => h9) rfl dX1_window_26 ?_
    refine lv_bipush (v := 6) hx hb dX1_window_29 (by decide) ?_
    refine yb_ne (tgt := 38) (n := 6) (by omega) (by decide) hx hb dX1_window_31 (by decide) (fun c_4 => ?_) (fun c_4 => ?_)
    · refine lv_iconst (v := 0) hx hb dX1_window_38 (by decide) ?_
      have hFc := va_free (wc := md ca ad th t k v n nw w kd ln hd so fq) hD hS hA [0, 1, 2, 3, 4, 5, 6] rfl
      refine va_calli (va_runV (As := [.int 1, .int 0]) (rest := []) ⟨hx, hb, hml, hown, hts⟩ (m_refuse l dC dI ca ad _ th t k v n nw w kd ln hd so fq 1 0) (cwV 2 hts (gg_V mlX1_46 imX1_refuse seX1_refuse in_WindowMetersModel kwX1_refuse) rfl rfl rfl (by decide +kernel) ⟨Nat.le_of_ble_eq_true rfl, Nat.le_of_ble_eq_true rfl⟩) (md_preV hK hP hD [.int 1, .int 0]) rfl rfl hl.1 rfl (lv_room (Nat.le_of_ble_eq_true rfl)) dX1_window_39 ⟨Nat.le_of_ble_eq_true rfl, Nat.le_of_ble_eq_true rfl⟩) hS (fun q _ h => hFc q h) hFc (fun r_5 uz9 t9 H1 locs ht9 hvm hw_6 hB hz1 hk1 hS => ?_)
      obtain ⟨hP, -, hD1⟩ := hB
      rw [ht9] at hP
      have hD := hD1.weaken (fun k q hk h => hFc q.1 h)
      rw [show mr_th 1 0 = 1 from by decide] at hP hD
      generalize H1 = H at hP hS ⊢
      have hP : va_P (dC, dI) vwCl (md ca ad 1 t k v n nw w kd ln hd so fq) H := hP
      have hD : va_D A (md ca ad 1 t k v n nw w kd ln hd so fq) := hD
      obtain rfl : r_5 = 1 := mk_yes hw_6 (by decide)
      refine lv_if_eq (tgt := 47) hx hb dX1_window_42 (by decide) (fun c_7 => ?_) (fun c_7 => ?_)
      · first | exact absurd rfl c_7 | exact absurd c_7 (by decide)
      · refine lv_iconst (v := 0) hx hb dX1_window_45 (by decide) ?_
        exact W.iret (v := 0) hx hb hr (fun t9 ht hW => ⟨⟨_, (1, kd, ln, w), rfl, Or.inr (Or.inl ⟨(fun q => mk_z hr_2 c_3 q.1), rfl⟩), by rw [ht]; exact hP, va_K.moved hW.alike hK, hD⟩, hS.F ht⟩) hS.2.2 dX1_window_46
    · refine lv_iconst (v := 1) hx hb dX1_window_34 (by decide) ?_
      refine lv_goto (tgt := 39) hx hb dX1_window_35 (by decide) ?_
      have hFc := va_free (wc := md ca ad th t k v n nw w kd ln hd so fq) hD hS hA [0, 1, 2, 3, 4, 5, 6] rfl
      refine va_calli (va_runV (As := [.int 1, .int 1]) (rest := []) ⟨hx, hb, hml, hown, hts⟩ (m_refuse l dC dI ca ad _ th t k v n nw w kd ln hd so fq 1 1) (cwV 2 hts (gg_V mlX1_46 imX1_refuse seX1_refuse in_WindowMetersModel kwX1_refuse) rfl rfl rfl (by decide +kernel) ⟨Nat.le_of_ble_eq_true rfl, Nat.le_of_ble_eq_true rfl⟩) (md_preV hK hP hD [.int 1, .int 1]) rfl rfl hl.1 rfl (lv_room (Nat.le_of_ble_eq_true rfl)) dX1_window_39 ⟨Nat.le_of_ble_eq_true rfl, Nat.le_of_ble_eq_true rfl⟩) hS (fun q _ h => hFc q h) hFc (fun r_8 uz9 t9 H1 locs ht9 hvm hw_9 hB hz1 hk1 hS => ?_)
      obtain ⟨hP, -, hD1⟩ := hB
      rw [ht9] at hP
      have hD := hD1.weaken (fun k q hk h => hFc q.1 h)
      rw [show mr_th 1 1 = 1 from by decide] at hP hD
      generalize H1 = H at hP hS ⊢
      have hP : va_P (dC, dI) vwCl (md ca ad 1 t k v n nw w kd ln hd so fq) H := hP
      have hD : va_D A (md ca ad 1 t k v n nw w kd ln hd so fq) := hD
      obtain rfl : r_8 = 1 := mk_yes hw_9 (by decide)
      refine lv_if_eq (tgt := 47) hx hb dX1_window_42 (by decide) (fun c_10 => ?_) (fun c_10 => ?_)
      · first | exact absurd rfl c_10 | exact absurd c_10 (by decide)
      · refine lv_iconst (v := 0) hx hb dX1_window_45 (by decide) ?_
        exact W.iret (v := 0) hx hb hr (fun t9 ht hW => ⟨⟨_, (1, kd, ln, w), rfl, Or.inr (Or.inl ⟨(fun q => mk_z hr_2 c_3 q.1), rfl⟩), by rw [ht]; exact hP, va_K.moved hW.alike hK, hD⟩, hS.F ht⟩) hS.2.2 dX1_window_46
  · refine lv_iload_n hx hb dX1_window_10 rfl (lv_at hl 2 rfl) ?_
    refine lv_iconst (v := 0) hx hb dX1_window_11 (by decide) ?_
    refine lv_ldc (v := 1000000) hx hb hown (hts _ (List.mem_cons_of_mem _ cnX1_45)) dX1_window_12 ?_
    refine vp_callSi (W.runS (As := [.int p2, .int 0, .int 1000000]) (rest := [.ref (ad 0)]) ⟨hx, hb, hml, hown, hts⟩ (m_in l p2 0 1000000) (va_cwS 3 hts (gg_S mlX1_41 stX1_in in_WindowMetersModel kwX1_in) rfl rfl rfl (by decide +kernel) ⟨Nat.le_of_ble_eq_true rfl, Nat.le_of_ble_eq_true rfl⟩) preEq rfl rfl hl.1 rfl (lv_room (Nat.le_of_ble_eq_true rfl)) dX1_window_14 ⟨Nat.le_of_ble_eq_true rfl, Nat.le_of_ble_eq_true rfl⟩) (fun r_11 hr_12 => ?_)
    refine lv_if_ne (tgt := 24) hx hb dX1_window_17 (by decide) (fun c_13 => ?_) (fun c_13 => ?_)
    · refine lv_iconst (v := 0) hx hb dX1_window_24 (by decide) ?_
      refine lv_aload_n hx hb dX1_window_25 rfl (lv_at hl 0 rfl) ?_
      refine va_get (D := (dC, dI)) (ci := 1) (v := .int (nI w)) (C := RX1) (T := TX1) (N := 12) hx hb hts hin0 hown hK hP 0 rfl rfl 6 (by decide) fl_38 (fun _ h9 => h9) rfl dX1_window_26 ?_
      refine lv_bipush (v := 6) hx hb dX1_window_29 (by decide) ?_
      refine yb_ne (tgt := 38) (n := 6) (by omega) (by decide) hx hb dX1_window_31 (by decide) (fun c_14 => ?_) (fun c_14 => ?_)
      · refine lv_iconst (v := 0) hx hb dX1_window_38 (by decide) ?_
        have hFc := va_free (wc := md ca ad th t k v n nw w kd ln hd so fq) hD hS hA [0, 1, 2, 3, 4, 5, 6] rfl
        refine va_calli (va_runV (As := [.int 0, .int 0]) (rest := []) ⟨hx, hb, hml, hown, hts⟩ (m_refuse l dC dI ca ad _ th t k v n nw w kd ln hd so fq 0 0) (cwV 2 hts (gg_V mlX1_46 imX1_refuse seX1_refuse in_WindowMetersModel kwX1_refuse) rfl rfl rfl (by decide +kernel) ⟨Nat.le_of_ble_eq_true rfl, Nat.le_of_ble_eq_true rfl⟩) (md_preV hK hP hD [.int 0, .int 0]) rfl rfl hl.1 rfl (lv_room (Nat.le_of_ble_eq_true rfl)) dX1_window_39 ⟨Nat.le_of_ble_eq_true rfl, Nat.le_of_ble_eq_true rfl⟩) hS (fun q _ h => hFc q h) hFc (fun r_15 uz9 t9 H1 locs ht9 hvm hw_16 hB hz1 hk1 hS => ?_)
        obtain ⟨hP, -, hD1⟩ := hB
        rw [ht9] at hP
        have hD := hD1.weaken (fun k q hk h => hFc q.1 h)
        rw [show mr_th 0 0 = 0 from by decide] at hP hD
        generalize H1 = H at hP hS ⊢
        have hP : va_P (dC, dI) vwCl (md ca ad 0 t k v n nw w kd ln hd so fq) H := hP
        have hD : va_D A (md ca ad 0 t k v n nw w kd ln hd so fq) := hD
        obtain rfl : r_15 = 0 := mk_no hw_16 (by decide)
        refine lv_if_eq (tgt := 47) hx hb dX1_window_42 (by decide) (fun c_17 => ?_) (fun c_17 => ?_)
        · have hw5 : w < 6 := by omega
          refine lv_aload_n hx hb dX1_window_47 rfl (lv_at hl 0 rfl) ?_
          refine va_get (D := (dC, dI)) (ci := 1) (v := .ref (ad 4)) (C := RX1) (T := TX1) (N := 12) hx hb hts hin0 hown hK hP 0 rfl rfl 7 (by decide) fl_19 (fun _ h9 => h9) rfl dX1_window_48 ?_
          refine lv_aload_n hx hb dX1_window_51 rfl (lv_at hl 0 rfl) ?_
          refine va_get (D := (dC, dI)) (ci := 1) (v := .int (nI w)) (C := RX1) (T := TX1) (N := 12) hx hb hts hin0 hown hK hP 0 rfl rfl 6 (by decide) fl_38 (fun _ h9 => h9) rfl dX1_window_52 ?_
          refine lv_iload_n hx hb dX1_window_55 rfl (lv_at hl 1 rfl) ?_
          refine ya_iast hx hb hK hP hD hS 4 3 rfl rfl (j := w) hw5 (by decide) dX1_window_56 (fun H locs hP hD hS => ?_)
          have hP : va_P (dC, dI) vwCl (md ca ad 0 t k v n nw w (upd kd w p1) ln hd so fq) H := hP
          have hD : va_D A (md ca ad 0 t k v n nw w (upd kd w p1) ln hd so fq) := hD
          refine lv_aload_n hx hb dX1_window_57 rfl (lv_at hl 0 rfl) ?_
          refine va_get (D := (dC, dI)) (ci := 1) (v := .ref (ad 5)) (C := RX1) (T := TX1) (N := 12) hx hb hts hin0 hown hK hP 0 rfl rfl 8 (by decide) fl_22 (fun _ h9 => h9) rfl dX1_window_58 ?_
          refine lv_aload_n hx hb dX1_window_61 rfl (lv_at hl 0 rfl) ?_
          refine va_get (D := (dC, dI)) (ci := 1) (v := .int (nI w)) (C := RX1) (T := TX1) (N := 12) hx hb hts hin0 hown hK hP 0 rfl rfl 6 (by decide) fl_38 (fun _ h9 => h9) rfl dX1_window_62 ?_
          refine lv_iload_n hx hb dX1_window_65 rfl (lv_at hl 2 rfl) ?_
          refine ya_iast hx hb hK hP hD hS 5 4 rfl rfl (j := w) hw5 (by decide) dX1_window_66 (fun H locs hP hD hS => ?_)
          have hP : va_P (dC, dI) vwCl (md ca ad 0 t k v n nw w (upd kd w p1) (upd ln w p2) hd so fq) H := hP
          have hD : va_D A (md ca ad 0 t k v n nw w (upd kd w p1) (upd ln w p2) hd so fq) := hD
          refine lv_aload_n hx hb dX1_window_67 rfl (lv_at hl 0 rfl) ?_
          refine lv_dup hx hb dX1_window_68 rfl ?_
          refine va_get (D := (dC, dI)) (ci := 1) (v := .int (nI w)) (C := RX1) (T := TX1) (N := 12) hx hb hts hin0 hown hK hP 0 rfl rfl 6 (by decide) fl_38 (fun _ h9 => h9) rfl dX1_window_69 ?_
          refine lv_iconst (v := 1) hx hb dX1_window_72 (by decide) ?_
          refine lv_iadd hx hb dX1_window_73 ?_
          rw [nI_1 w]
          refine va_put (D := (dC, dI)) (ci := 1) (v := .int (nI (w + 1))) (ty := .int) (C := RX1) (T := TX1) (N := 12) hx hb hts hin0 tyX1 tyX1_ok nmX1 hown hK hP hD hS 0 rfl rfl 6 (by decide) fl_38 (fun _ h9 => h9) rfl (by decide +kernel) rfl rfl (Nat.le_of_ble_eq_true rfl) dX1_window_74 (fun H locs hP hD hS => ?_)
          have hP : va_P (dC, dI) vwCl (md ca ad 0 t k v n nw (w + 1) (upd kd w p1) (upd ln w p2) hd so fq) H := hP
          have hD : va_D A (md ca ad 0 t k v n nw (w + 1) (upd kd w p1) (upd ln w p2) hd so fq) := hD
          refine lv_aload_n hx hb dX1_window_77 rfl (lv_at hl 0 rfl) ?_
          refine va_get (D := (dC, dI)) (ci := 1) (v := .int (nI (w + 1))) (C := RX1) (T := TX1) (N := 12) hx hb hts hin0 hown hK hP 0 rfl rfl 6 (by decide) fl_38 (fun _ h9 => h9) rfl dX1_window_78 ?_
          refine lv_iconst (v := 1) hx hb dX1_window_81 (by decide) ?_
          refine lv_isub hx hb dX1_window_82 ?_
          rw [nI_pred w]
          exact W.iret (v := (nI w)) hx hb hr (fun t9 ht hW => ⟨⟨_, (0, upd kd w p1, upd ln w p2, w + 1), rfl, Or.inl ⟨⟨mk_nz hr_2 c_3, mk_nz hr_12 c_13⟩, hw5, rfl, rfl⟩, by rw [ht]; exact hP, va_K.moved hW.alike hK, hD⟩, hS.F ht⟩) hS.2.2 dX1_window_83
        · first | exact absurd rfl c_17 | exact absurd c_17 (by decide)
      · refine lv_iconst (v := 1) hx hb dX1_window_34 (by decide) ?_
        refine lv_goto (tgt := 39) hx hb dX1_window_35 (by decide) ?_
        have hFc := va_free (wc := md ca ad th t k v n nw w kd ln hd so fq) hD hS hA [0, 1, 2, 3, 4, 5, 6] rfl
        refine va_calli (va_runV (As := [.int 0, .int 1]) (rest := []) ⟨hx, hb, hml, hown, hts⟩ (m_refuse l dC dI ca ad _ th t k v n nw w kd ln hd so fq 0 1) (cwV 2 hts (gg_V mlX1_46 imX1_refuse seX1_refuse in_WindowMetersModel kwX1_refuse) rfl rfl rfl (by decide +kernel) ⟨Nat.le_of_ble_eq_true rfl, Nat.le_of_ble_eq_true rfl⟩) (md_preV hK hP hD [.int 0, .int 1]) rfl rfl hl.1 rfl (lv_room (Nat.le_of_ble_eq_true rfl)) dX1_window_39 ⟨Nat.le_of_ble_eq_true rfl, Nat.le_of_ble_eq_true rfl⟩) hS (fun q _ h => hFc q h) hFc (fun r_18 uz9 t9 H1 locs ht9 hvm hw_19 hB hz1 hk1 hS => ?_)
        obtain ⟨hP, -, hD1⟩ := hB
        rw [ht9] at hP
        have hD := hD1.weaken (fun k q hk h => hFc q.1 h)
        rw [show mr_th 0 1 = 2 from by decide] at hP hD
        generalize H1 = H at hP hS ⊢
        have hP : va_P (dC, dI) vwCl (md ca ad 2 t k v n nw w kd ln hd so fq) H := hP
        have hD : va_D A (md ca ad 2 t k v n nw w kd ln hd so fq) := hD
        obtain rfl : r_18 = 1 := mk_yes hw_19 (by decide)
        refine lv_if_eq (tgt := 47) hx hb dX1_window_42 (by decide) (fun c_20 => ?_) (fun c_20 => ?_)
        · first | exact absurd rfl c_20 | exact absurd c_20 (by decide)
        · refine lv_iconst (v := 0) hx hb dX1_window_45 (by decide) ?_
          exact W.iret (v := 0) hx hb hr (fun t9 ht hW => ⟨⟨_, (2, kd, ln, w), rfl, Or.inr (Or.inr ⟨⟨mk_nz hr_2 c_3, mk_nz hr_12 c_13⟩, c_14, rfl⟩), by rw [ht]; exact hP, va_K.moved hW.alike hK, hD⟩, hS.F ht⟩) hS.2.2 dX1_window_46
    · refine lv_iconst (v := 1) hx hb dX1_window_20 (by decide) ?_
      refine lv_goto (tgt := 25) hx hb dX1_window_21 (by decide) ?_
      refine lv_aload_n hx hb dX1_window_25 rfl (lv_at hl 0 rfl) ?_
      refine va_get (D := (dC, dI)) (ci := 1) (v := .int (nI w)) (C := RX1) (T := TX1) (N := 12) hx hb hts hin0 hown hK hP 0 rfl rfl 6 (by decide) fl_38 (fun _ h9 => h9) rfl dX1_window_26 ?_
      refine lv_bipush (v := 6) hx hb dX1_window_29 (by decide) ?_
      refine yb_ne (tgt := 38) (n := 6) (by omega) (by decide) hx hb dX1_window_31 (by decide) (fun c_21 => ?_) (fun c_21 => ?_)
      · refine lv_iconst (v := 0) hx hb dX1_window_38 (by decide) ?_
        have hFc := va_free (wc := md ca ad th t k v n nw w kd ln hd so fq) hD hS hA [0, 1, 2, 3, 4, 5, 6] rfl
        refine va_calli (va_runV (As := [.int 1, .int 0]) (rest := []) ⟨hx, hb, hml, hown, hts⟩ (m_refuse l dC dI ca ad _ th t k v n nw w kd ln hd so fq 1 0) (cwV 2 hts (gg_V mlX1_46 imX1_refuse seX1_refuse in_WindowMetersModel kwX1_refuse) rfl rfl rfl (by decide +kernel) ⟨Nat.le_of_ble_eq_true rfl, Nat.le_of_ble_eq_true rfl⟩) (md_preV hK hP hD [.int 1, .int 0]) rfl rfl hl.1 rfl (lv_room (Nat.le_of_ble_eq_true rfl)) dX1_window_39 ⟨Nat.le_of_ble_eq_true rfl, Nat.le_of_ble_eq_true rfl⟩) hS (fun q _ h => hFc q h) hFc (fun r_22 uz9 t9 H1 locs ht9 hvm hw_23 hB hz1 hk1 hS => ?_)
        obtain ⟨hP, -, hD1⟩ := hB
        rw [ht9] at hP
        have hD := hD1.weaken (fun k q hk h => hFc q.1 h)
        rw [show mr_th 1 0 = 1 from by decide] at hP hD
        generalize H1 = H at hP hS ⊢
        have hP : va_P (dC, dI) vwCl (md ca ad 1 t k v n nw w kd ln hd so fq) H := hP
        have hD : va_D A (md ca ad 1 t k v n nw w kd ln hd so fq) := hD
        obtain rfl : r_22 = 1 := mk_yes hw_23 (by decide)
        refine lv_if_eq (tgt := 47) hx hb dX1_window_42 (by decide) (fun c_24 => ?_) (fun c_24 => ?_)
        · first | exact absurd rfl c_24 | exact absurd c_24 (by decide)
        · refine lv_iconst (v := 0) hx hb dX1_window_45 (by decide) ?_
          exact W.iret (v := 0) hx hb hr (fun t9 ht hW => ⟨⟨_, (1, kd, ln, w), rfl, Or.inr (Or.inl ⟨(fun q => mk_z hr_12 c_13 q.2), rfl⟩), by rw [ht]; exact hP, va_K.moved hW.alike hK, hD⟩, hS.F ht⟩) hS.2.2 dX1_window_46
      · refine lv_iconst (v := 1) hx hb dX1_window_34 (by decide) ?_
        refine lv_goto (tgt := 39) hx hb dX1_window_35 (by decide) ?_
        have hFc := va_free (wc := md ca ad th t k v n nw w kd ln hd so fq) hD hS hA [0, 1, 2, 3, 4, 5, 6] rfl
        refine va_calli (va_runV (As := [.int 1, .int 1]) (rest := []) ⟨hx, hb, hml, hown, hts⟩ (m_refuse l dC dI ca ad _ th t k v n nw w kd ln hd so fq 1 1) (cwV 2 hts (gg_V mlX1_46 imX1_refuse seX1_refuse in_WindowMetersModel kwX1_refuse) rfl rfl rfl (by decide +kernel) ⟨Nat.le_of_ble_eq_true rfl, Nat.le_of_ble_eq_true rfl⟩) (md_preV hK hP hD [.int 1, .int 1]) rfl rfl hl.1 rfl (lv_room (Nat.le_of_ble_eq_true rfl)) dX1_window_39 ⟨Nat.le_of_ble_eq_true rfl, Nat.le_of_ble_eq_true rfl⟩) hS (fun q _ h => hFc q h) hFc (fun r_25 uz9 t9 H1 locs ht9 hvm hw_26 hB hz1 hk1 hS => ?_)
        obtain ⟨hP, -, hD1⟩ := hB
        rw [ht9] at hP
        have hD := hD1.weaken (fun k q hk h => hFc q.1 h)
        rw [show mr_th 1 1 = 1 from by decide] at hP hD
        generalize H1 = H at hP hS ⊢
        have hP : va_P (dC, dI) vwCl (md ca ad 1 t k v n nw w kd ln hd so fq) H := hP
        have hD : va_D A (md ca ad 1 t k v n nw w kd ln hd so fq) := hD
        obtain rfl : r_25 = 1 := mk_yes hw_26 (by decide)
        refine lv_if_eq (tgt := 47) hx hb dX1_window_42 (by decide) (fun c_27 => ?_) (fun c_27 => ?_)
        · first | exact absurd rfl c_27 | exact absurd c_27 (by decide)
        · refine lv_iconst (v := 0) hx hb dX1_window_45 (by decide) ?_
          exact W.iret (v := 0) hx hb hr (fun t9 ht hW => ⟨⟨_, (1, kd, ln, w), rfl, Or.inr (Or.inl ⟨(fun q => mk_z hr_12 c_13 q.2), rfl⟩), by rw [ht]; exact hP, va_K.moved hW.alike hK, hD⟩, hS.F ht⟩) hS.2.2 dX1_window_46

set_option maxRecDepth 100000 in
set_option maxHeartbeats 4000000 in
/-- tuple(time, key, value) -/
theorem m_tuple (l : Launch) (dC : Nat → ClassId) (dI : Nat → Nat → Nat) (ca : Nat → ClassId) (ad : Nat → Nat) (sz : Nat) (th : Int32) (t : Nat → Int32) (k : Nat → Nat) (v : Nat → Int32) (n : Nat) (nw : Int32) (w : Nat) (kd : Nat → Int32) (ln : Nat → Int32) (hd : Nat) (so : Nat → Int32) (fq : Nat) (p1 p2 p3 : Int32) (hn : n ≤ 300) : Met l yX1_tuple wsX1_tuple ({ frames := 1, cells := 0, slots := 0, locals := 22 }) (va_Pc [.ref (ad 0), .int p1, .int p2, .int p3] (mdPre dC dI ca ad sz th t k v n nw w kd ln hd so fq)) (va_Qi (fun (r : Int32) (u : Int32 × (Nat → Int32) × (Nat → Nat) × (Nat → Int32) × Nat × Int32) => ((qx_in p1 nw 1000000 ∧ qx_in p2 0 7) ∧ n < 300 ∧ (∃ kk, kk < 8 ∧ p2 = nI kk ∧ u = (0, upd t n p1, vu k n kk, upd v n p3, n + 1, p1)) ∧ r = nI (n + 1)) ∨ (¬ (qx_in p1 nw 1000000 ∧ qx_in p2 0 7) ∧ u = (1, t, k, v, n, nw)) ∨ ((qx_in p1 nw 1000000 ∧ qx_in p2 0 7) ∧ n = 300 ∧ u = (2, t, k, v, n, nw))) (fun u t9 => mdAt dC dI ca ad (va_A (md ca ad th t k v n nw w kd ln hd so fq) sz) u.1 u.2.1 u.2.2.1 u.2.2.2.1 u.2.2.2.2.1 u.2.2.2.2.2 w kd ln hd so fq t9) (va_A (md ca ad th t k v n nw w kd ln hd so fq) sz)) 0 0 (va_A (md ca ad th t k v n nw w kd ln hd so fq) sz) := by
  refine Met.ofW (cc := cX1_tuple) (maxL := 4) (ret := (some .int)) (by decide) rfl ?_
  intro p e s m args below meth c s₁ B hml hv
  obtain ⟨rfl, hsz, hP, hK, hD0⟩ := hv
  have hx := B.exec
  have hb := B.bytes
  have hr := B.returns
  have hts := atoms_spec (ws := wsX1_tuple) B.pre
  have hown : s.vm.findClass RX1 = some m.cls := findClass_of_methodNamed B.named
  have hlocks := B.notSynchronized
  subst hsz
  have hin0 : ∀ w ∈ u_ws RX1 TX1 12, w ∈ wsX1_tuple := fun w h => List.mem_cons_of_mem _ (wiX1 w h)
  have fl_7 := hts _ (List.mem_cons_of_mem _ flX1_7)
  have fl_13 := hts _ (List.mem_cons_of_mem _ flX1_13)
  have fl_16 := hts _ (List.mem_cons_of_mem _ flX1_16)
  have fl_32 := hts _ (List.mem_cons_of_mem _ flX1_32)
  have fl_35 := hts _ (List.mem_cons_of_mem _ flX1_35)
  have hD := hD0.self (sz := s.heap.size)
  generalize hAe : va_A (md ca ad th t k v n nw w kd ln hd so fq) s.heap.size = A at hD ⊢
  have hA : ∀ q : Nat, s.heap.size ≤ q → A q := fun q h => by rw [← hAe]; exact Or.inr h
  have hS : va_S A s.heap s.heap [] := va_S.rf
  have hl := lv_entry ([.ref (ad 0), .int p1, .int p2, .int p3]) (n := 4) (Nat.le_of_ble_eq_true rfl)
  rw [lg_entry_eq]
  generalize (lg_sl ([.ref (ad 0), .int p1, .int p2, .int p3]) ++ List.replicate (4 - (lg_sl ([.ref (ad 0), .int p1, .int p2, .int p3])).length) Slot.unset).toArray = ls at hl ⊢
  have hl : lv_has ls 4 [(0, .ref (ad 0)), (1, .int p1), (2, .int p2), (3, .int p3)] := hl
  refine lv_aload_n hx hb dX1_tuple_0 rfl (lv_at hl 0 rfl) ?_
  refine lv_iload_n hx hb dX1_tuple_1 rfl (lv_at hl 1 rfl) ?_
  refine lv_aload_n hx hb dX1_tuple_2 rfl (lv_at hl 0 rfl) ?_
  refine va_get (D := (dC, dI)) (ci := 1) (v := .int nw) (C := RX1) (T := TX1) (N := 12) hx hb hts hin0 hown hK hP 0 rfl rfl 5 (by decide) fl_35 (fun _ h9 => h9) rfl dX1_tuple_3 ?_
  refine lv_ldc (v := 1000000) hx hb hown (hts _ (List.mem_cons_of_mem _ cnX1_45)) dX1_tuple_6 ?_
  refine vp_callSi (W.runS (As := [.int p1, .int nw, .int 1000000]) (rest := [.ref (ad 0)]) ⟨hx, hb, hml, hown, hts⟩ (m_in l p1 nw 1000000) (va_cwS 3 hts (gg_S mlX1_41 stX1_in in_WindowMetersModel kwX1_in) rfl rfl rfl (by decide +kernel) ⟨Nat.le_of_ble_eq_true rfl, Nat.le_of_ble_eq_true rfl⟩) preEq rfl rfl hl.1 rfl (lv_room (Nat.le_of_ble_eq_true rfl)) dX1_tuple_8 ⟨Nat.le_of_ble_eq_true rfl, Nat.le_of_ble_eq_true rfl⟩) (fun r_1 hr_2 => ?_)
  refine lv_if_eq (tgt := 24) hx hb dX1_tuple_11 (by decide) (fun c_3 => ?_) (fun c_3 => ?_)
  · refine lv_iconst (v := 1) hx hb dX1_tuple_24 (by decide) ?_
    refine lv_goto (tgt := 29) hx hb dX1_tuple_25 (by decide) ?_
    refine lv_aload_n hx hb dX1_tuple_29 rfl (lv_at hl 0 rfl) ?_
    refine va_get (D := (dC, dI)) (ci := 1) (v := .int (nI n)) (C := RX1) (T := TX1) (N := 12) hx hb hts hin0 hown hK hP 0 rfl rfl 1 (by decide) fl_32 (fun _ h9 => h9) rfl dX1_tuple_30 ?_
    refine lv_sipush (v := 300) hx hb dX1_tuple_33 (by decide) ?_
    refine yb_ne (tgt := 43) (n := 300) (by omega) (by decide) hx hb dX1_tuple_36 (by decide) (fun c_4 => ?_) (fun c_4 => ?_)
    · refine lv_iconst (v := 0) hx hb dX1_tuple_43 (by decide) ?_
      have hFc := va_free (wc := md ca ad th t k v n nw w kd ln hd so fq) hD hS hA [0, 1, 2, 3, 4, 5, 6] rfl
      refine va_calli (va_runV (As := [.int 1, .int 0]) (rest := []) ⟨hx, hb, hml, hown, hts⟩ (m_refuse l dC dI ca ad _ th t k v n nw w kd ln hd so fq 1 0) (cwV 2 hts (gg_V mlX1_46 imX1_refuse seX1_refuse in_WindowMetersModel kwX1_refuse) rfl rfl rfl (by decide +kernel) ⟨Nat.le_of_ble_eq_true rfl, Nat.le_of_ble_eq_true rfl⟩) (md_preV hK hP hD [.int 1, .int 0]) rfl rfl hl.1 rfl (lv_room (Nat.le_of_ble_eq_true rfl)) dX1_tuple_44 ⟨Nat.le_of_ble_eq_true rfl, Nat.le_of_ble_eq_true rfl⟩) hS (fun q _ h => hFc q h) hFc (fun r_5 uz9 t9 H1 locs ht9 hvm hw_6 hB hz1 hk1 hS => ?_)
      obtain ⟨hP, -, hD1⟩ := hB
      rw [ht9] at hP
      have hD := hD1.weaken (fun k q hk h => hFc q.1 h)
      rw [show mr_th 1 0 = 1 from by decide] at hP hD
      generalize H1 = H at hP hS ⊢
      have hP : va_P (dC, dI) vwCl (md ca ad 1 t k v n nw w kd ln hd so fq) H := hP
      have hD : va_D A (md ca ad 1 t k v n nw w kd ln hd so fq) := hD
      obtain rfl : r_5 = 1 := mk_yes hw_6 (by decide)
      refine lv_if_eq (tgt := 52) hx hb dX1_tuple_47 (by decide) (fun c_7 => ?_) (fun c_7 => ?_)
      · first | exact absurd rfl c_7 | exact absurd c_7 (by decide)
      · refine lv_iconst (v := 0) hx hb dX1_tuple_50 (by decide) ?_
        exact W.iret (v := 0) hx hb hr (fun t9 ht hW => ⟨⟨_, (1, t, k, v, n, nw), rfl, Or.inr (Or.inl ⟨(fun q => mk_z hr_2 c_3 q.1), rfl⟩), by rw [ht]; exact hP, va_K.moved hW.alike hK, hD⟩, hS.F ht⟩) hS.2.2 dX1_tuple_51
    · refine lv_iconst (v := 1) hx hb dX1_tuple_39 (by decide) ?_
      refine lv_goto (tgt := 44) hx hb dX1_tuple_40 (by decide) ?_
      have hFc := va_free (wc := md ca ad th t k v n nw w kd ln hd so fq) hD hS hA [0, 1, 2, 3, 4, 5, 6] rfl
      refine va_calli (va_runV (As := [.int 1, .int 1]) (rest := []) ⟨hx, hb, hml, hown, hts⟩ (m_refuse l dC dI ca ad _ th t k v n nw w kd ln hd so fq 1 1) (cwV 2 hts (gg_V mlX1_46 imX1_refuse seX1_refuse in_WindowMetersModel kwX1_refuse) rfl rfl rfl (by decide +kernel) ⟨Nat.le_of_ble_eq_true rfl, Nat.le_of_ble_eq_true rfl⟩) (md_preV hK hP hD [.int 1, .int 1]) rfl rfl hl.1 rfl (lv_room (Nat.le_of_ble_eq_true rfl)) dX1_tuple_44 ⟨Nat.le_of_ble_eq_true rfl, Nat.le_of_ble_eq_true rfl⟩) hS (fun q _ h => hFc q h) hFc (fun r_8 uz9 t9 H1 locs ht9 hvm hw_9 hB hz1 hk1 hS => ?_)
      obtain ⟨hP, -, hD1⟩ := hB
      rw [ht9] at hP
      have hD := hD1.weaken (fun k q hk h => hFc q.1 h)
      rw [show mr_th 1 1 = 1 from by decide] at hP hD
      generalize H1 = H at hP hS ⊢
      have hP : va_P (dC, dI) vwCl (md ca ad 1 t k v n nw w kd ln hd so fq) H := hP
      have hD : va_D A (md ca ad 1 t k v n nw w kd ln hd so fq) := hD
      obtain rfl : r_8 = 1 := mk_yes hw_9 (by decide)
      refine lv_if_eq (tgt := 52) hx hb dX1_tuple_47 (by decide) (fun c_10 => ?_) (fun c_10 => ?_)
      · first | exact absurd rfl c_10 | exact absurd c_10 (by decide)
      · refine lv_iconst (v := 0) hx hb dX1_tuple_50 (by decide) ?_
        exact W.iret (v := 0) hx hb hr (fun t9 ht hW => ⟨⟨_, (1, t, k, v, n, nw), rfl, Or.inr (Or.inl ⟨(fun q => mk_z hr_2 c_3 q.1), rfl⟩), by rw [ht]; exact hP, va_K.moved hW.alike hK, hD⟩, hS.F ht⟩) hS.2.2 dX1_tuple_51
  · refine lv_iload_n hx hb dX1_tuple_14 rfl (lv_at hl 2 rfl) ?_
    refine lv_iconst (v := 0) hx hb dX1_tuple_15 (by decide) ?_
    refine lv_bipush (v := 7) hx hb dX1_tuple_16 (by decide) ?_
    refine vp_callSi (W.runS (As := [.int p2, .int 0, .int 7]) (rest := [.ref (ad 0)]) ⟨hx, hb, hml, hown, hts⟩ (m_in l p2 0 7) (va_cwS 3 hts (gg_S mlX1_41 stX1_in in_WindowMetersModel kwX1_in) rfl rfl rfl (by decide +kernel) ⟨Nat.le_of_ble_eq_true rfl, Nat.le_of_ble_eq_true rfl⟩) preEq rfl rfl hl.1 rfl (lv_room (Nat.le_of_ble_eq_true rfl)) dX1_tuple_18 ⟨Nat.le_of_ble_eq_true rfl, Nat.le_of_ble_eq_true rfl⟩) (fun r_11 hr_12 => ?_)
    refine lv_if_ne (tgt := 28) hx hb dX1_tuple_21 (by decide) (fun c_13 => ?_) (fun c_13 => ?_)
    · refine lv_iconst (v := 0) hx hb dX1_tuple_28 (by decide) ?_
      refine lv_aload_n hx hb dX1_tuple_29 rfl (lv_at hl 0 rfl) ?_
      refine va_get (D := (dC, dI)) (ci := 1) (v := .int (nI n)) (C := RX1) (T := TX1) (N := 12) hx hb hts hin0 hown hK hP 0 rfl rfl 1 (by decide) fl_32 (fun _ h9 => h9) rfl dX1_tuple_30 ?_
      refine lv_sipush (v := 300) hx hb dX1_tuple_33 (by decide) ?_
      refine yb_ne (tgt := 43) (n := 300) (by omega) (by decide) hx hb dX1_tuple_36 (by decide) (fun c_14 => ?_) (fun c_14 => ?_)
      · refine lv_iconst (v := 0) hx hb dX1_tuple_43 (by decide) ?_
        have hFc := va_free (wc := md ca ad th t k v n nw w kd ln hd so fq) hD hS hA [0, 1, 2, 3, 4, 5, 6] rfl
        refine va_calli (va_runV (As := [.int 0, .int 0]) (rest := []) ⟨hx, hb, hml, hown, hts⟩ (m_refuse l dC dI ca ad _ th t k v n nw w kd ln hd so fq 0 0) (cwV 2 hts (gg_V mlX1_46 imX1_refuse seX1_refuse in_WindowMetersModel kwX1_refuse) rfl rfl rfl (by decide +kernel) ⟨Nat.le_of_ble_eq_true rfl, Nat.le_of_ble_eq_true rfl⟩) (md_preV hK hP hD [.int 0, .int 0]) rfl rfl hl.1 rfl (lv_room (Nat.le_of_ble_eq_true rfl)) dX1_tuple_44 ⟨Nat.le_of_ble_eq_true rfl, Nat.le_of_ble_eq_true rfl⟩) hS (fun q _ h => hFc q h) hFc (fun r_15 uz9 t9 H1 locs ht9 hvm hw_16 hB hz1 hk1 hS => ?_)
        obtain ⟨hP, -, hD1⟩ := hB
        rw [ht9] at hP
        have hD := hD1.weaken (fun k q hk h => hFc q.1 h)
        rw [show mr_th 0 0 = 0 from by decide] at hP hD
        generalize H1 = H at hP hS ⊢
        have hP : va_P (dC, dI) vwCl (md ca ad 0 t k v n nw w kd ln hd so fq) H := hP
        have hD : va_D A (md ca ad 0 t k v n nw w kd ln hd so fq) := hD
        obtain rfl : r_15 = 0 := mk_no hw_16 (by decide)
        refine lv_if_eq (tgt := 52) hx hb dX1_tuple_47 (by decide) (fun c_17 => ?_) (fun c_17 => ?_)
        · have hn3 : n < 300 := by omega
          have hG : qx_in p1 nw 1000000 ∧ qx_in p2 0 7 := ⟨mk_nz hr_2 c_3, mk_nz hr_12 c_13⟩
          obtain ⟨kk, hkk, rfl⟩ := qx_win_yes (w := 8) (by decide) (qx_in7.mp hG.2).1 (qx_in7.mp hG.2).2
          have hl : lv_has ls 4 [(0, .ref (ad 0)), (1, .int p1), (2, .int (nI kk)), (3, .int p3)] := hl
          refine lv_aload_n hx hb dX1_tuple_52 rfl (lv_at hl 0 rfl) ?_
          refine va_get (D := (dC, dI)) (ci := 1) (v := .ref (ad 1)) (C := RX1) (T := TX1) (N := 12) hx hb hts hin0 hown hK hP 0 rfl rfl 2 (by decide) fl_7 (fun _ h9 => h9) rfl dX1_tuple_53 ?_
          refine lv_aload_n hx hb dX1_tuple_56 rfl (lv_at hl 0 rfl) ?_
          refine va_get (D := (dC, dI)) (ci := 1) (v := .int (nI n)) (C := RX1) (T := TX1) (N := 12) hx hb hts hin0 hown hK hP 0 rfl rfl 1 (by decide) fl_32 (fun _ h9 => h9) rfl dX1_tuple_57 ?_
          refine lv_iload_n hx hb dX1_tuple_60 rfl (lv_at hl 1 rfl) ?_
          refine ya_iast hx hb hK hP hD hS 1 0 rfl rfl (j := n) hn3 (by decide) dX1_tuple_61 (fun H locs hP hD hS => ?_)
          have hP : va_P (dC, dI) vwCl (md ca ad 0 (upd t n p1) k v n nw w kd ln hd so fq) H := hP
          have hD : va_D A (md ca ad 0 (upd t n p1) k v n nw w kd ln hd so fq) := hD
          refine lv_aload_n hx hb dX1_tuple_62 rfl (lv_at hl 0 rfl) ?_
          refine va_get (D := (dC, dI)) (ci := 1) (v := .ref (ad 2)) (C := RX1) (T := TX1) (N := 12) hx hb hts hin0 hown hK hP 0 rfl rfl 3 (by decide) fl_13 (fun _ h9 => h9) rfl dX1_tuple_63 ?_
          refine lv_aload_n hx hb dX1_tuple_66 rfl (lv_at hl 0 rfl) ?_
          refine va_get (D := (dC, dI)) (ci := 1) (v := .int (nI n)) (C := RX1) (T := TX1) (N := 12) hx hb hts hin0 hown hK hP 0 rfl rfl 1 (by decide) fl_32 (fun _ h9 => h9) rfl dX1_tuple_67 ?_
          refine lv_iload_n hx hb dX1_tuple_70 rfl (lv_at hl 2 rfl) ?_
          refine ya_iast hx hb hK hP hD hS 2 1 rfl rfl (j := n) hn3 (by decide) dX1_tuple_71 (fun H locs hP hD hS => ?_)
          rw [vu_upd] at hP hD
          have hD : va_D A (md ca ad 0 (upd t n p1) (vu k n kk) v n nw w kd ln hd so fq) := hD
          have hP : va_P (dC, dI) vwCl (md ca ad 0 (upd t n p1) (vu k n kk) v n nw w kd ln hd so fq) H := hP
          refine lv_aload_n hx hb dX1_tuple_72 rfl (lv_at hl 0 rfl) ?_
          refine va_get (D := (dC, dI)) (ci := 1) (v := .ref (ad 3)) (C := RX1) (T := TX1) (N := 12) hx hb hts hin0 hown hK hP 0 rfl rfl 4 (by decide) fl_16 (fun _ h9 => h9) rfl dX1_tuple_73 ?_
          refine lv_aload_n hx hb dX1_tuple_76 rfl (lv_at hl 0 rfl) ?_
          refine va_get (D := (dC, dI)) (ci := 1) (v := .int (nI n)) (C := RX1) (T := TX1) (N := 12) hx hb hts hin0 hown hK hP 0 rfl rfl 1 (by decide) fl_32 (fun _ h9 => h9) rfl dX1_tuple_77 ?_
          refine lv_iload_n hx hb dX1_tuple_80 rfl (lv_at hl 3 rfl) ?_
          refine ya_iast hx hb hK hP hD hS 3 2 rfl rfl (j := n) hn3 (by decide) dX1_tuple_81 (fun H locs hP hD hS => ?_)
          have hP : va_P (dC, dI) vwCl (md ca ad 0 (upd t n p1) (vu k n kk) (upd v n p3) n nw w kd ln hd so fq) H := hP
          have hD : va_D A (md ca ad 0 (upd t n p1) (vu k n kk) (upd v n p3) n nw w kd ln hd so fq) := hD
          refine lv_aload_n hx hb dX1_tuple_82 rfl (lv_at hl 0 rfl) ?_
          refine lv_dup hx hb dX1_tuple_83 rfl ?_
          refine va_get (D := (dC, dI)) (ci := 1) (v := .int (nI n)) (C := RX1) (T := TX1) (N := 12) hx hb hts hin0 hown hK hP 0 rfl rfl 1 (by decide) fl_32 (fun _ h9 => h9) rfl dX1_tuple_84 ?_
          refine lv_iconst (v := 1) hx hb dX1_tuple_87 (by decide) ?_
          refine lv_iadd hx hb dX1_tuple_88 ?_
          rw [nI_1 n]
          refine va_put (D := (dC, dI)) (ci := 1) (v := .int (nI (n + 1))) (ty := .int) (C := RX1) (T := TX1) (N := 12) hx hb hts hin0 tyX1 tyX1_ok nmX1 hown hK hP hD hS 0 rfl rfl 1 (by decide) fl_32 (fun _ h9 => h9) rfl (by decide +kernel) rfl rfl (Nat.le_of_ble_eq_true rfl) dX1_tuple_89 (fun H locs hP hD hS => ?_)
          have hP : va_P (dC, dI) vwCl (md ca ad 0 (upd t n p1) (vu k n kk) (upd v n p3) (n + 1) nw w kd ln hd so fq) H := hP
          have hD : va_D A (md ca ad 0 (upd t n p1) (vu k n kk) (upd v n p3) (n + 1) nw w kd ln hd so fq) := hD
          refine lv_aload_n hx hb dX1_tuple_92 rfl (lv_at hl 0 rfl) ?_
          refine lv_iload_n hx hb dX1_tuple_93 rfl (lv_at hl 1 rfl) ?_
          refine va_put (D := (dC, dI)) (ci := 1) (v := .int p1) (ty := .int) (C := RX1) (T := TX1) (N := 12) hx hb hts hin0 tyX1 tyX1_ok nmX1 hown hK hP hD hS 0 rfl rfl 5 (by decide) fl_35 (fun _ h9 => h9) rfl (by decide +kernel) rfl rfl (Nat.le_of_ble_eq_true rfl) dX1_tuple_94 (fun H locs hP hD hS => ?_)
          have hP : va_P (dC, dI) vwCl (md ca ad 0 (upd t n p1) (vu k n kk) (upd v n p3) (n + 1) p1 w kd ln hd so fq) H := hP
          have hD : va_D A (md ca ad 0 (upd t n p1) (vu k n kk) (upd v n p3) (n + 1) p1 w kd ln hd so fq) := hD
          refine lv_aload_n hx hb dX1_tuple_97 rfl (lv_at hl 0 rfl) ?_
          refine va_get (D := (dC, dI)) (ci := 1) (v := .int (nI (n + 1))) (C := RX1) (T := TX1) (N := 12) hx hb hts hin0 hown hK hP 0 rfl rfl 1 (by decide) fl_32 (fun _ h9 => h9) rfl dX1_tuple_98 ?_
          exact W.iret (v := (nI (n + 1))) hx hb hr (fun t9 ht hW => ⟨⟨_, (0, upd t n p1, vu k n kk, upd v n p3, n + 1, p1), rfl, Or.inl ⟨hG, hn3, ⟨kk, hkk, rfl, rfl⟩, rfl⟩, by rw [ht]; exact hP, va_K.moved hW.alike hK, hD⟩, hS.F ht⟩) hS.2.2 dX1_tuple_101
        · first | exact absurd rfl c_17 | exact absurd c_17 (by decide)
      · refine lv_iconst (v := 1) hx hb dX1_tuple_39 (by decide) ?_
        refine lv_goto (tgt := 44) hx hb dX1_tuple_40 (by decide) ?_
        have hFc := va_free (wc := md ca ad th t k v n nw w kd ln hd so fq) hD hS hA [0, 1, 2, 3, 4, 5, 6] rfl
        refine va_calli (va_runV (As := [.int 0, .int 1]) (rest := []) ⟨hx, hb, hml, hown, hts⟩ (m_refuse l dC dI ca ad _ th t k v n nw w kd ln hd so fq 0 1) (cwV 2 hts (gg_V mlX1_46 imX1_refuse seX1_refuse in_WindowMetersModel kwX1_refuse) rfl rfl rfl (by decide +kernel) ⟨Nat.le_of_ble_eq_true rfl, Nat.le_of_ble_eq_true rfl⟩) (md_preV hK hP hD [.int 0, .int 1]) rfl rfl hl.1 rfl (lv_room (Nat.le_of_ble_eq_true rfl)) dX1_tuple_44 ⟨Nat.le_of_ble_eq_true rfl, Nat.le_of_ble_eq_true rfl⟩) hS (fun q _ h => hFc q h) hFc (fun r_18 uz9 t9 H1 locs ht9 hvm hw_19 hB hz1 hk1 hS => ?_)
        obtain ⟨hP, -, hD1⟩ := hB
        rw [ht9] at hP
        have hD := hD1.weaken (fun k q hk h => hFc q.1 h)
        rw [show mr_th 0 1 = 2 from by decide] at hP hD
        generalize H1 = H at hP hS ⊢
        have hP : va_P (dC, dI) vwCl (md ca ad 2 t k v n nw w kd ln hd so fq) H := hP
        have hD : va_D A (md ca ad 2 t k v n nw w kd ln hd so fq) := hD
        obtain rfl : r_18 = 1 := mk_yes hw_19 (by decide)
        refine lv_if_eq (tgt := 52) hx hb dX1_tuple_47 (by decide) (fun c_20 => ?_) (fun c_20 => ?_)
        · first | exact absurd rfl c_20 | exact absurd c_20 (by decide)
        · refine lv_iconst (v := 0) hx hb dX1_tuple_50 (by decide) ?_
          exact W.iret (v := 0) hx hb hr (fun t9 ht hW => ⟨⟨_, (2, t, k, v, n, nw), rfl, Or.inr (Or.inr ⟨⟨mk_nz hr_2 c_3, mk_nz hr_12 c_13⟩, c_14, rfl⟩), by rw [ht]; exact hP, va_K.moved hW.alike hK, hD⟩, hS.F ht⟩) hS.2.2 dX1_tuple_51
    · refine lv_iconst (v := 1) hx hb dX1_tuple_24 (by decide) ?_
      refine lv_goto (tgt := 29) hx hb dX1_tuple_25 (by decide) ?_
      refine lv_aload_n hx hb dX1_tuple_29 rfl (lv_at hl 0 rfl) ?_
      refine va_get (D := (dC, dI)) (ci := 1) (v := .int (nI n)) (C := RX1) (T := TX1) (N := 12) hx hb hts hin0 hown hK hP 0 rfl rfl 1 (by decide) fl_32 (fun _ h9 => h9) rfl dX1_tuple_30 ?_
      refine lv_sipush (v := 300) hx hb dX1_tuple_33 (by decide) ?_
      refine yb_ne (tgt := 43) (n := 300) (by omega) (by decide) hx hb dX1_tuple_36 (by decide) (fun c_21 => ?_) (fun c_21 => ?_)
      · refine lv_iconst (v := 0) hx hb dX1_tuple_43 (by decide) ?_
        have hFc := va_free (wc := md ca ad th t k v n nw w kd ln hd so fq) hD hS hA [0, 1, 2, 3, 4, 5, 6] rfl
        refine va_calli (va_runV (As := [.int 1, .int 0]) (rest := []) ⟨hx, hb, hml, hown, hts⟩ (m_refuse l dC dI ca ad _ th t k v n nw w kd ln hd so fq 1 0) (cwV 2 hts (gg_V mlX1_46 imX1_refuse seX1_refuse in_WindowMetersModel kwX1_refuse) rfl rfl rfl (by decide +kernel) ⟨Nat.le_of_ble_eq_true rfl, Nat.le_of_ble_eq_true rfl⟩) (md_preV hK hP hD [.int 1, .int 0]) rfl rfl hl.1 rfl (lv_room (Nat.le_of_ble_eq_true rfl)) dX1_tuple_44 ⟨Nat.le_of_ble_eq_true rfl, Nat.le_of_ble_eq_true rfl⟩) hS (fun q _ h => hFc q h) hFc (fun r_22 uz9 t9 H1 locs ht9 hvm hw_23 hB hz1 hk1 hS => ?_)
        obtain ⟨hP, -, hD1⟩ := hB
        rw [ht9] at hP
        have hD := hD1.weaken (fun k q hk h => hFc q.1 h)
        rw [show mr_th 1 0 = 1 from by decide] at hP hD
        generalize H1 = H at hP hS ⊢
        have hP : va_P (dC, dI) vwCl (md ca ad 1 t k v n nw w kd ln hd so fq) H := hP
        have hD : va_D A (md ca ad 1 t k v n nw w kd ln hd so fq) := hD
        obtain rfl : r_22 = 1 := mk_yes hw_23 (by decide)
        refine lv_if_eq (tgt := 52) hx hb dX1_tuple_47 (by decide) (fun c_24 => ?_) (fun c_24 => ?_)
        · first | exact absurd rfl c_24 | exact absurd c_24 (by decide)
        · refine lv_iconst (v := 0) hx hb dX1_tuple_50 (by decide) ?_
          exact W.iret (v := 0) hx hb hr (fun t9 ht hW => ⟨⟨_, (1, t, k, v, n, nw), rfl, Or.inr (Or.inl ⟨(fun q => mk_z hr_12 c_13 q.2), rfl⟩), by rw [ht]; exact hP, va_K.moved hW.alike hK, hD⟩, hS.F ht⟩) hS.2.2 dX1_tuple_51
      · refine lv_iconst (v := 1) hx hb dX1_tuple_39 (by decide) ?_
        refine lv_goto (tgt := 44) hx hb dX1_tuple_40 (by decide) ?_
        have hFc := va_free (wc := md ca ad th t k v n nw w kd ln hd so fq) hD hS hA [0, 1, 2, 3, 4, 5, 6] rfl
        refine va_calli (va_runV (As := [.int 1, .int 1]) (rest := []) ⟨hx, hb, hml, hown, hts⟩ (m_refuse l dC dI ca ad _ th t k v n nw w kd ln hd so fq 1 1) (cwV 2 hts (gg_V mlX1_46 imX1_refuse seX1_refuse in_WindowMetersModel kwX1_refuse) rfl rfl rfl (by decide +kernel) ⟨Nat.le_of_ble_eq_true rfl, Nat.le_of_ble_eq_true rfl⟩) (md_preV hK hP hD [.int 1, .int 1]) rfl rfl hl.1 rfl (lv_room (Nat.le_of_ble_eq_true rfl)) dX1_tuple_44 ⟨Nat.le_of_ble_eq_true rfl, Nat.le_of_ble_eq_true rfl⟩) hS (fun q _ h => hFc q h) hFc (fun r_25 uz9 t9 H1 locs ht9 hvm hw_26 hB hz1 hk1 hS => ?_)
        obtain ⟨hP, -, hD1⟩ := hB
        rw [ht9] at hP
        have hD := hD1.weaken (fun k q hk h => hFc q.1 h)
        rw [show mr_th 1 1 = 1 from by decide] at hP hD
        generalize H1 = H at hP hS ⊢
        have hP : va_P (dC, dI) vwCl (md ca ad 1 t k v n nw w kd ln hd so fq) H := hP
        have hD : va_D A (md ca ad 1 t k v n nw w kd ln hd so fq) := hD
        obtain rfl : r_25 = 1 := mk_yes hw_26 (by decide)
        refine lv_if_eq (tgt := 52) hx hb dX1_tuple_47 (by decide) (fun c_27 => ?_) (fun c_27 => ?_)
        · first | exact absurd rfl c_27 | exact absurd c_27 (by decide)
        · refine lv_iconst (v := 0) hx hb dX1_tuple_50 (by decide) ?_
          exact W.iret (v := 0) hx hb hr (fun t9 ht hW => ⟨⟨_, (1, t, k, v, n, nw), rfl, Or.inr (Or.inl ⟨(fun q => mk_z hr_12 c_13 q.2), rfl⟩), by rw [ht]; exact hP, va_K.moved hW.alike hK, hD⟩, hS.F ht⟩) hS.2.2 dX1_tuple_51

set_option maxRecDepth 100000 in
set_option maxHeartbeats 4000000 in
/-- tick(time) -/
theorem m_tick (l : Launch) (dC : Nat → ClassId) (dI : Nat → Nat → Nat) (ca : Nat → ClassId) (ad : Nat → Nat) (sz : Nat) (th : Int32) (t : Nat → Int32) (k : Nat → Nat) (v : Nat → Int32) (n : Nat) (nw : Int32) (w : Nat) (kd : Nat → Int32) (ln : Nat → Int32) (hd : Nat) (so : Nat → Int32) (fq : Nat) (p1 : Int32)  : Met l yX1_tick wsX1_tick ({ frames := 1, cells := 0, slots := 0, locals := 22 }) (va_Pc [.ref (ad 0), .int p1] (mdPre dC dI ca ad sz th t k v n nw w kd ln hd so fq)) (va_Qv (fun (u : Int32 × Int32) => (qx_in p1 nw 1000000 ∧ u = (0, p1)) ∨ (¬ qx_in p1 nw 1000000 ∧ u = (1, nw))) (fun u t9 => mdAt dC dI ca ad (va_A (md ca ad th t k v n nw w kd ln hd so fq) sz) u.1 t k v n u.2 w kd ln hd so fq t9) (va_A (md ca ad th t k v n nw w kd ln hd so fq) sz)) 0 0 (va_A (md ca ad th t k v n nw w kd ln hd so fq) sz) := by
  refine Met.ofW (cc := cX1_tick) (maxL := 2) (ret := none) (by decide) rfl ?_
  intro p e s m args below meth c s₁ B hml hv
  obtain ⟨rfl, hsz, hP, hK, hD0⟩ := hv
  have hx := B.exec
  have hb := B.bytes
  have hr := B.returns
  have hts := atoms_spec (ws := wsX1_tick) B.pre
  have hown : s.vm.findClass RX1 = some m.cls := findClass_of_methodNamed B.named
  have hlocks := B.notSynchronized
  subst hsz
  have hin0 : ∀ w ∈ u_ws RX1 TX1 12, w ∈ wsX1_tick := fun w h => List.mem_cons_of_mem _ (wiX1 w h)
  have fl_35 := hts _ (List.mem_cons_of_mem _ flX1_35)
  have hD := hD0.self (sz := s.heap.size)
  generalize hAe : va_A (md ca ad th t k v n nw w kd ln hd so fq) s.heap.size = A at hD ⊢
  have hA : ∀ q : Nat, s.heap.size ≤ q → A q := fun q h => by rw [← hAe]; exact Or.inr h
  have hS : va_S A s.heap s.heap [] := va_S.rf
  have hl := lv_entry ([.ref (ad 0), .int p1]) (n := 2) (Nat.le_of_ble_eq_true rfl)
  rw [lg_entry_eq]
  generalize (lg_sl ([.ref (ad 0), .int p1]) ++ List.replicate (2 - (lg_sl ([.ref (ad 0), .int p1])).length) Slot.unset).toArray = ls at hl ⊢
  have hl : lv_has ls 2 [(0, .ref (ad 0)), (1, .int p1)] := hl
  refine lv_aload_n hx hb dX1_tick_0 rfl (lv_at hl 0 rfl) ?_
  refine lv_iload_n hx hb dX1_tick_1 rfl (lv_at hl 1 rfl) ?_
  refine lv_aload_n hx hb dX1_tick_2 rfl (lv_at hl 0 rfl) ?_
  refine va_get (D := (dC, dI)) (ci := 1) (v := .int nw) (C := RX1) (T := TX1) (N := 12) hx hb hts hin0 hown hK hP 0 rfl rfl 5 (by decide) fl_35 (fun _ h9 => h9) rfl dX1_tick_3 ?_
  refine lv_ldc (v := 1000000) hx hb hown (hts _ (List.mem_cons_of_mem _ cnX1_45)) dX1_tick_6 ?_
  refine vp_callSi (W.runS (As := [.int p1, .int nw, .int 1000000]) (rest := [.ref (ad 0)]) ⟨hx, hb, hml, hown, hts⟩ (m_in l p1 nw 1000000) (va_cwS 3 hts (gg_S mlX1_41 stX1_in in_WindowMetersModel kwX1_in) rfl rfl rfl (by decide +kernel) ⟨Nat.le_of_ble_eq_true rfl, Nat.le_of_ble_eq_true rfl⟩) preEq rfl rfl hl.1 rfl (lv_room (Nat.le_of_ble_eq_true rfl)) dX1_tick_8 ⟨Nat.le_of_ble_eq_true rfl, Nat.le_of_ble_eq_true rfl⟩) (fun r_1 hr_2 => ?_)
  refine lv_if_ne (tgt := 18) hx hb dX1_tick_11 (by decide) (fun c_3 => ?_) (fun c_3 => ?_)
  · refine lv_iconst (v := 0) hx hb dX1_tick_18 (by decide) ?_
    refine lv_iconst (v := 0) hx hb dX1_tick_19 (by decide) ?_
    have hFc := va_free (wc := md ca ad th t k v n nw w kd ln hd so fq) hD hS hA [0, 1, 2, 3, 4, 5, 6] rfl
    refine va_calli (va_runV (As := [.int 0, .int 0]) (rest := []) ⟨hx, hb, hml, hown, hts⟩ (m_refuse l dC dI ca ad _ th t k v n nw w kd ln hd so fq 0 0) (cwV 2 hts (gg_V mlX1_46 imX1_refuse seX1_refuse in_WindowMetersModel kwX1_refuse) rfl rfl rfl (by decide +kernel) ⟨Nat.le_of_ble_eq_true rfl, Nat.le_of_ble_eq_true rfl⟩) (md_preV hK hP hD [.int 0, .int 0]) rfl rfl hl.1 rfl (lv_room (Nat.le_of_ble_eq_true rfl)) dX1_tick_20 ⟨Nat.le_of_ble_eq_true rfl, Nat.le_of_ble_eq_true rfl⟩) hS (fun q _ h => hFc q h) hFc (fun r_4 uz9 t9 H1 locs ht9 hvm hw_5 hB hz1 hk1 hS => ?_)
    obtain ⟨hP, -, hD1⟩ := hB
    rw [ht9] at hP
    have hD := hD1.weaken (fun k q hk h => hFc q.1 h)
    rw [show mr_th 0 0 = 0 from by decide] at hP hD
    generalize H1 = H at hP hS ⊢
    have hP : va_P (dC, dI) vwCl (md ca ad 0 t k v n nw w kd ln hd so fq) H := hP
    have hD : va_D A (md ca ad 0 t k v n nw w kd ln hd so fq) := hD
    obtain rfl : r_4 = 0 := mk_no hw_5 (by decide)
    refine lv_if_ne (tgt := 31) hx hb dX1_tick_23 (by decide) (fun c_6 => ?_) (fun c_6 => ?_)
    · first | exact absurd rfl c_6 | exact absurd c_6 (by decide)
    · refine lv_aload_n hx hb dX1_tick_26 rfl (lv_at hl 0 rfl) ?_
      refine lv_iload_n hx hb dX1_tick_27 rfl (lv_at hl 1 rfl) ?_
      refine va_put (D := (dC, dI)) (ci := 1) (v := .int p1) (ty := .int) (C := RX1) (T := TX1) (N := 12) hx hb hts hin0 tyX1 tyX1_ok nmX1 hown hK hP hD hS 0 rfl rfl 5 (by decide) fl_35 (fun _ h9 => h9) rfl (by decide +kernel) rfl rfl (Nat.le_of_ble_eq_true rfl) dX1_tick_28 (fun H locs hP hD hS => ?_)
      have hP : va_P (dC, dI) vwCl (md ca ad 0 t k v n p1 w kd ln hd so fq) H := hP
      have hD : va_D A (md ca ad 0 t k v n p1 w kd ln hd so fq) := hD
      exact W.vret hx hb hr (fun t9 ht hW => ⟨⟨(0, p1), rfl, Or.inl ⟨mk_nz hr_2 c_3, rfl⟩, by rw [ht]; exact hP, va_K.moved hW.alike hK, hD⟩, hS.F ht⟩) hS.2.2 dX1_tick_31
  · refine lv_iconst (v := 1) hx hb dX1_tick_14 (by decide) ?_
    refine lv_goto (tgt := 19) hx hb dX1_tick_15 (by decide) ?_
    refine lv_iconst (v := 0) hx hb dX1_tick_19 (by decide) ?_
    have hFc := va_free (wc := md ca ad th t k v n nw w kd ln hd so fq) hD hS hA [0, 1, 2, 3, 4, 5, 6] rfl
    refine va_calli (va_runV (As := [.int 1, .int 0]) (rest := []) ⟨hx, hb, hml, hown, hts⟩ (m_refuse l dC dI ca ad _ th t k v n nw w kd ln hd so fq 1 0) (cwV 2 hts (gg_V mlX1_46 imX1_refuse seX1_refuse in_WindowMetersModel kwX1_refuse) rfl rfl rfl (by decide +kernel) ⟨Nat.le_of_ble_eq_true rfl, Nat.le_of_ble_eq_true rfl⟩) (md_preV hK hP hD [.int 1, .int 0]) rfl rfl hl.1 rfl (lv_room (Nat.le_of_ble_eq_true rfl)) dX1_tick_20 ⟨Nat.le_of_ble_eq_true rfl, Nat.le_of_ble_eq_true rfl⟩) hS (fun q _ h => hFc q h) hFc (fun r_7 uz9 t9 H1 locs ht9 hvm hw_8 hB hz1 hk1 hS => ?_)
    obtain ⟨hP, -, hD1⟩ := hB
    rw [ht9] at hP
    have hD := hD1.weaken (fun k q hk h => hFc q.1 h)
    rw [show mr_th 1 0 = 1 from by decide] at hP hD
    generalize H1 = H at hP hS ⊢
    have hP : va_P (dC, dI) vwCl (md ca ad 1 t k v n nw w kd ln hd so fq) H := hP
    have hD : va_D A (md ca ad 1 t k v n nw w kd ln hd so fq) := hD
    obtain rfl : r_7 = 1 := mk_yes hw_8 (by decide)
    refine lv_if_ne (tgt := 31) hx hb dX1_tick_23 (by decide) (fun c_9 => ?_) (fun c_9 => ?_)
    · exact W.vret hx hb hr (fun t9 ht hW => ⟨⟨(1, nw), rfl, Or.inr ⟨mk_z hr_2 c_3, rfl⟩, by rw [ht]; exact hP, va_K.moved hW.alike hK, hD⟩, hS.F ht⟩) hS.2.2 dX1_tick_31
    · first | exact absurd rfl c_9 | exact absurd c_9 (by decide)

set_option maxRecDepth 100000 in
set_option maxHeartbeats 4000000 in
/-- isWindow(w) -/
theorem m_isWindow (l : Launch) (dC : Nat → ClassId) (dI : Nat → Nat → Nat) (ca : Nat → ClassId) (ad : Nat → Nat) (sz : Nat) (th : Int32) (t : Nat → Int32) (k : Nat → Nat) (v : Nat → Int32) (n : Nat) (nw : Int32) (w : Nat) (kd : Nat → Int32) (ln : Nat → Int32) (hd : Nat) (so : Nat → Int32) (fq : Nat) (p1 : Int32) (hw6 : w ≤ 6) : Met l yX1_isWindow wsX1_isWindow ({ frames := 1, cells := 0, slots := 0, locals := 22 }) (va_Pc [.ref (ad 0), .int p1] (mdPre dC dI ca ad sz th t k v n nw w kd ln hd so fq)) (vp_Si (fun r => qc_mk r (qx_win w p1))) 0 0 (fun _ => False) := by
  refine Met.ofW (cc := cX1_isWindow) (maxL := 2) (ret := (some .boolean)) (by decide) rfl ?_
  intro p e s m args below meth c s₁ B hml hv
  obtain ⟨rfl, hsz, hP, hK, hD0⟩ := hv
  have hx := B.exec
  have hb := B.bytes
  have hr := B.returns
  have hts := atoms_spec (ws := wsX1_isWindow) B.pre
  have hown : s.vm.findClass RX1 = some m.cls := findClass_of_methodNamed B.named
  have hlocks := B.notSynchronized
  subst hsz
  have hin0 : ∀ w ∈ u_ws RX1 TX1 12, w ∈ wsX1_isWindow := fun w h => List.mem_cons_of_mem _ (wiX1 w h)
  have fl_38 := hts _ (List.mem_cons_of_mem _ flX1_38)
  have hD := hD0
  have hl := lv_entry ([.ref (ad 0), .int p1]) (n := 2) (Nat.le_of_ble_eq_true rfl)
  rw [lg_entry_eq]
  generalize (lg_sl ([.ref (ad 0), .int p1]) ++ List.replicate (2 - (lg_sl ([.ref (ad 0), .int p1])).length) Slot.unset).toArray = ls at hl ⊢
  have hl : lv_has ls 2 [(0, .ref (ad 0)), (1, .int p1)] := hl
  refine lv_iload_n hx hb dX1_isWindow_0 rfl (lv_at hl 1 rfl) ?_
  refine lv_iconst (v := 0) hx hb dX1_isWindow_1 (by decide) ?_
  refine lv_aload_n hx hb dX1_isWindow_2 rfl (lv_at hl 0 rfl) ?_
  refine va_get (D := (dC, dI)) (ci := 1) (v := .int (nI w)) (C := RX1) (T := TX1) (N := 12) hx hb hts hin0 hown hK hP 0 rfl rfl 6 (by decide) fl_38 (fun _ h9 => h9) rfl dX1_isWindow_3 ?_
  refine lv_iconst (v := 1) hx hb dX1_isWindow_6 (by decide) ?_
  refine lv_isub hx hb dX1_isWindow_7 ?_
  refine vp_callSi (W.runS (As := [.int p1, .int 0, .int ((nI w) - 1)]) (rest := []) ⟨hx, hb, hml, hown, hts⟩ (m_in l p1 0 ((nI w) - 1)) (va_cwS 3 hts (gg_S mlX1_41 stX1_in in_WindowMetersModel kwX1_in) rfl rfl rfl (by decide +kernel) ⟨Nat.le_of_ble_eq_true rfl, Nat.le_of_ble_eq_true rfl⟩) preEq rfl rfl hl.1 rfl (lv_room (Nat.le_of_ble_eq_true rfl)) dX1_isWindow_8 ⟨Nat.le_of_ble_eq_true rfl, Nat.le_of_ble_eq_true rfl⟩) (fun r_1 hr_2 => ?_)
  exact W.zret (v := r_1) hx hb hr (mk_bool hr_2) (fun t ht hW => ⟨_, rfl, mk_iff (qx_in_pred (by omega)) hr_2, ht⟩) (fun q h => by cases h) dX1_isWindow_11

set_option maxRecDepth 100000 in
set_option maxHeartbeats 4000000 in
/-- behindOfKey(i) -/
theorem m_behindOfKey (l : Launch) (dC : Nat → ClassId) (dI : Nat → Nat → Nat) (ca : Nat → ClassId) (ad : Nat → Nat) (sz : Nat) (th : Int32) (t : Nat → Int32) (k : Nat → Nat) (v : Nat → Int32) (n : Nat) (nw : Int32) (w : Nat) (kd : Nat → Int32) (ln : Nat → Int32) (hd : Nat) (so : Nat → Int32) (fq : Nat) (i0 : Nat) (hn : n ≤ 300) (hk8 : ∀ j, j < n → k j < 8) (hi0 : i0 < n) : Met l yX1_behindOfKey wsX1_behindOfKey ({ frames := 0, cells := 0, slots := 0, locals := 0 }) (va_Pc [.ref (ad 0), .int (nI i0)] (mdPre dC dI ca ad sz th t k v n nw w kd ln hd so fq)) (vp_Si (fun r => r = nI (qc_oc k (k i0) (i0 + 1) n))) 0 0 (fun _ => False) := by
  refine Met.ofW (cc := cX1_behindOfKey) (maxL := 4) (ret := (some .int)) (by decide) rfl ?_
  intro p e s m args below meth c s₁ B hml hv
  obtain ⟨rfl, hsz, hP, hK, hD0⟩ := hv
  have hx := B.exec
  have hb := B.bytes
  have hr := B.returns
  have hts := atoms_spec (ws := wsX1_behindOfKey) B.pre
  have hown : s.vm.findClass RX1 = some m.cls := findClass_of_methodNamed B.named
  have hlocks := B.notSynchronized
  subst hsz
  have hin0 : ∀ w ∈ u_ws RX1 TX1 12, w ∈ wsX1_behindOfKey := fun w h => List.mem_cons_of_mem _ (wiX1 w h)
  have fl_13 := hts _ (List.mem_cons_of_mem _ flX1_13)
  have fl_32 := hts _ (List.mem_cons_of_mem _ flX1_32)
  have hD := hD0
  have hl := lv_entry ([.ref (ad 0), .int (nI i0)]) (n := 4) (Nat.le_of_ble_eq_true rfl)
  rw [lg_entry_eq]
  generalize (lg_sl ([.ref (ad 0), .int (nI i0)]) ++ List.replicate (4 - (lg_sl ([.ref (ad 0), .int (nI i0)])).length) Slot.unset).toArray = ls at hl ⊢
  have hl : lv_has ls 4 [(0, .ref (ad 0)), (1, .int (nI i0))] := hl
  refine lv_iconst (v := 0) hx hb dX1_behindOfKey_0 (by decide) ?_
  refine lv_istore_n (lv' := [(2, .int 0), (0, .ref (ad 0)), (1, .int (nI i0))]) hx hb dX1_behindOfKey_1 rfl hl (by decide) rfl (fun ls hl => ?_)
  refine lv_iload_n hx hb dX1_behindOfKey_2 rfl (lv_at hl 2 rfl) ?_
  refine lv_iconst (v := 1) hx hb dX1_behindOfKey_3 (by decide) ?_
  refine lv_iadd hx hb dX1_behindOfKey_4 ?_
  rw [nI_1 i0]
  refine lv_istore_n (lv' := [(3, .int (nI (i0 + 1))), (2, .int 0), (0, .ref (ad 0)), (1, .int (nI i0))]) hx hb dX1_behindOfKey_5 rfl hl (by decide) rfl (fun ls hl => ?_)
  have loop : ∀ (d i : Nat), i ≤ n → n + 1 ≤ i + d → (i0 + 1 ≤ i) → ∀ (ls : Array Slot), lv_has ls 4 [(0, .ref (ad 0)), (1, .int (nI i0)), (2, .int (nI (qc_oc k (k i0) (i0 + 1) i))), (3, .int (nI i))] → W p l e (headSpec wsX1_behindOfKey ({ frames := 0, cells := 0, slots := 0, locals := 0 })).room s m ([.ref (ad 0), .int (nI i0)] : List Value).toArray below meth c s.heap [] 0 0 (MQ below (vp_Si (fun r => r = nI (qc_oc k (k i0) (i0 + 1) n))) ([.ref (ad 0), .int (nI i0)] : List Value).toArray s 0 0 (fun _ => False)) (F0 m 6 ls []) := by
    intro d
    induction d with
    | zero =>
      intro i hi hfu
      exact absurd hfu (by omega)
    | succ d ih =>
      intro i hi hfu hlo ls hl
      refine lv_iload_n hx hb dX1_behindOfKey_6 rfl (lv_at hl 3 rfl) ?_
      refine lv_aload_n hx hb dX1_behindOfKey_7 rfl (lv_at hl 0 rfl) ?_
      refine va_get (D := (dC, dI)) (ci := 1) (v := .int (nI n)) (C := RX1) (T := TX1) (N := 12) hx hb hts hin0 hown hK hP 0 rfl rfl 1 (by decide) fl_32 (fun _ h9 => h9) rfl dX1_behindOfKey_8 ?_
      refine yb_ge (tgt := 43) (by omega) (by omega) hx hb dX1_behindOfKey_11 (by decide) (fun c_1 => ?_) (fun c_1 => ?_)
      · refine lv_iload_n hx hb dX1_behindOfKey_43 rfl (lv_at hl 2 rfl) ?_
        exact W.iret (v := (nI (qc_oc k (k i0) (i0 + 1) i))) hx hb hr (fun t ht hW => ⟨_, rfl, by rw [show n = i from by omega], ht⟩) (fun q h => by cases h) dX1_behindOfKey_44
      · refine lv_aload_n hx hb dX1_behindOfKey_14 rfl (lv_at hl 0 rfl) ?_
        refine va_get (D := (dC, dI)) (ci := 1) (v := .ref (ad 2)) (C := RX1) (T := TX1) (N := 12) hx hb hts hin0 hown hK hP 0 rfl rfl 3 (by decide) fl_13 (fun _ h9 => h9) rfl dX1_behindOfKey_15 ?_
        refine lv_iload_n hx hb dX1_behindOfKey_18 rfl (lv_at hl 3 rfl) ?_
        refine ya_iald hx hb hK hP 2 1 rfl rfl (j := i) (by omega) (by decide) dX1_behindOfKey_19 ?_
        refine lv_aload_n hx hb dX1_behindOfKey_20 rfl (lv_at hl 0 rfl) ?_
        refine va_get (D := (dC, dI)) (ci := 1) (v := .ref (ad 2)) (C := RX1) (T := TX1) (N := 12) hx hb hts hin0 hown hK hP 0 rfl rfl 3 (by decide) fl_13 (fun _ h9 => h9) rfl dX1_behindOfKey_21 ?_
        refine lv_iload_n hx hb dX1_behindOfKey_24 rfl (lv_at hl 1 rfl) ?_
        refine ya_iald hx hb hK hP 2 1 rfl rfl (j := i0) (by omega) (by decide) dX1_behindOfKey_25 ?_
        refine yb_ne (tgt := 35) (Nat.lt_trans (hk8 i c_1) (by decide)) (Nat.lt_trans (hk8 i0 hi0) (by decide)) hx hb dX1_behindOfKey_26 (by decide) (fun c_2 => ?_) (fun c_2 => ?_)
        · refine lv_iload_n hx hb dX1_behindOfKey_35 rfl (lv_at hl 2 rfl) ?_
          refine lv_istore_n (lv' := [(2, .int (nI (qc_oc k (k i0) (i0 + 1) i))), (0, .ref (ad 0)), (1, .int (nI i0)), (3, .int (nI i))]) hx hb dX1_behindOfKey_36 rfl hl (by decide) rfl (fun ls hl => ?_)
          refine lv_iinc (v := (nI (i + 1))) (lv' := [(3, .int (nI (i + 1))), (2, .int (nI (qc_oc k (k i0) (i0 + 1) i))), (0, .ref (ad 0)), (1, .int (nI i0))]) hx hb dX1_behindOfKey_37 hl (k := 3) rfl (yn_inc _) (by decide) rfl (fun ls hl => ?_)
          refine lv_goto (tgt := 6) hx hb dX1_behindOfKey_40 (by decide) ?_
          exact ih (i + 1) (by omega) (by omega) (by omega) ls (by rw [qc_oc, if_neg (fun q => c_2 q.2)]; exact (lv_sub hl [2, 3, 1, 0] rfl))
        · refine lv_iload_n hx hb dX1_behindOfKey_29 rfl (lv_at hl 2 rfl) ?_
          refine lv_iconst (v := 1) hx hb dX1_behindOfKey_30 (by decide) ?_
          refine lv_iadd hx hb dX1_behindOfKey_31 ?_
          rw [nI_1 (qc_oc k (k i0) (i0 + 1) i)]
          refine lv_goto (tgt := 36) hx hb dX1_behindOfKey_32 (by decide) ?_
          refine lv_istore_n (lv' := [(2, .int (nI (qc_oc k (k i0) (i0 + 1) i + 1))), (0, .ref (ad 0)), (1, .int (nI i0)), (3, .int (nI i))]) hx hb dX1_behindOfKey_36 rfl hl (by decide) rfl (fun ls hl => ?_)
          refine lv_iinc (v := (nI (i + 1))) (lv' := [(3, .int (nI (i + 1))), (2, .int (nI (qc_oc k (k i0) (i0 + 1) i + 1))), (0, .ref (ad 0)), (1, .int (nI i0))]) hx hb dX1_behindOfKey_37 hl (k := 3) rfl (yn_inc _) (by decide) rfl (fun ls hl => ?_)
          refine lv_goto (tgt := 6) hx hb dX1_behindOfKey_40 (by decide) ?_
          exact ih (i + 1) (by omega) (by omega) (by omega) ls (by rw [qc_oc, if_pos ⟨by omega, c_2⟩]; exact (lv_sub hl [2, 3, 1, 0] rfl))
  exact loop (n + 1) (i0 + 1) hi0 (by omega) (Nat.le_refl _) ls (by rw [qc_oc_none k (k i0) (i0 + 1) (i0 + 1) (Nat.le_refl _)]; exact (lv_sub hl [2, 3, 1, 0] rfl))

set_option maxRecDepth 100000 in
set_option maxHeartbeats 4000000 in
/-- runs(i, n) -/
theorem m_runs (l : Launch) (dC : Nat → ClassId) (dI : Nat → Nat → Nat) (ca : Nat → ClassId) (ad : Nat → Nat) (sz : Nat) (th : Int32) (t : Nat → Int32) (k : Nat → Nat) (v : Nat → Int32) (n : Nat) (nw : Int32) (w : Nat) (kd : Nat → Int32) (ln : Nat → Int32) (hd : Nat) (so : Nat → Int32) (fq : Nat) (i0 : Nat) (p2 : Int32) (hn : n < 300) (hi0 : i0 ≤ n) : Met l yX1_runs wsX1_runs ({ frames := 0, cells := 0, slots := 0, locals := 0 }) (va_Pc [.ref (ad 0), .int (nI i0), .int p2] (mdPre dC dI ca ad sz th t k v (n + 1) nw w kd ln hd so fq)) (vp_Si (fun r => qc_mk r (mr_run t nw p2 (n + 1) i0))) 0 0 (fun _ => False) := by
  refine Met.ofW (cc := cX1_runs) (maxL := 5) (ret := (some .boolean)) (by decide) rfl ?_
  intro p e s m args below meth c s₁ B hml hv
  obtain ⟨rfl, hsz, hP, hK, hD0⟩ := hv
  have hx := B.exec
  have hb := B.bytes
  have hr := B.returns
  have hts := atoms_spec (ws := wsX1_runs) B.pre
  have hown : s.vm.findClass RX1 = some m.cls := findClass_of_methodNamed B.named
  have hlocks := B.notSynchronized
  subst hsz
  have hin0 : ∀ w ∈ u_ws RX1 TX1 12, w ∈ wsX1_runs := fun w h => List.mem_cons_of_mem _ (wiX1 w h)
  have fl_7 := hts _ (List.mem_cons_of_mem _ flX1_7)
  have fl_32 := hts _ (List.mem_cons_of_mem _ flX1_32)
  have fl_35 := hts _ (List.mem_cons_of_mem _ flX1_35)
  have hD := hD0
  have hl := lv_entry ([.ref (ad 0), .int (nI i0), .int p2]) (n := 5) (Nat.le_of_ble_eq_true rfl)
  rw [lg_entry_eq]
  generalize (lg_sl ([.ref (ad 0), .int (nI i0), .int p2]) ++ List.replicate (5 - (lg_sl ([.ref (ad 0), .int (nI i0), .int p2])).length) Slot.unset).toArray = ls at hl ⊢
  have hl : lv_has ls 5 [(0, .ref (ad 0)), (1, .int (nI i0)), (2, .int p2)] := hl
  refine lv_aload_n hx hb dX1_runs_0 rfl (lv_at hl 0 rfl) ?_
  refine va_get (D := (dC, dI)) (ci := 1) (v := .ref (ad 1)) (C := RX1) (T := TX1) (N := 12) hx hb hts hin0 hown hK hP 0 rfl rfl 2 (by decide) fl_7 (fun _ h9 => h9) rfl dX1_runs_1 ?_
  refine lv_aload_n hx hb dX1_runs_4 rfl (lv_at hl 0 rfl) ?_
  refine va_get (D := (dC, dI)) (ci := 1) (v := .int (nI (n + 1))) (C := RX1) (T := TX1) (N := 12) hx hb hts hin0 hown hK hP 0 rfl rfl 1 (by decide) fl_32 (fun _ h9 => h9) rfl dX1_runs_5 ?_
  refine lv_iconst (v := 1) hx hb dX1_runs_8 (by decide) ?_
  refine lv_isub hx hb dX1_runs_9 ?_
  rw [nI_pred n]
  refine ya_iald hx hb hK hP 1 0 rfl rfl (j := n) hn (by decide) dX1_runs_10 ?_
  refine lv_aload_n hx hb dX1_runs_11 rfl (lv_at hl 0 rfl) ?_
  refine va_get (D := (dC, dI)) (ci := 1) (v := .int nw) (C := RX1) (T := TX1) (N := 12) hx hb hts hin0 hown hK hP 0 rfl rfl 5 (by decide) fl_35 (fun _ h9 => h9) rfl dX1_runs_12 ?_
  refine lv_iload_n hx hb dX1_runs_15 rfl (lv_at hl 2 rfl) ?_
  refine lv_isub hx hb dX1_runs_16 ?_
  have loop : ∀ (d i : Nat) (x3 : Int32), i ≤ n → n + 1 ≤ i + d → (i0 ≤ i) → (qc_mk x3 (¬ t n < nw - p2 ∧ ∀ j, i0 ≤ j → j < i → ¬ p2 < t (j + 1) - t j)) → ∀ (ls : Array Slot), lv_has ls 5 [(0, .ref (ad 0)), (1, .int (nI i0)), (2, .int p2), (3, .int x3), (4, .int (nI i))] → W p l e (headSpec wsX1_runs ({ frames := 0, cells := 0, slots := 0, locals := 0 })).room s m ([.ref (ad 0), .int (nI i0), .int p2] : List Value).toArray below meth c s.heap [] 0 0 (MQ below (vp_Si (fun r => qc_mk r (mr_run t nw p2 (n + 1) i0))) ([.ref (ad 0), .int (nI i0), .int p2] : List Value).toArray s 0 0 (fun _ => False)) (F0 m 29 ls []) := by
    intro d
    induction d with
    | zero =>
      intro i x3 hi hfu
      exact absurd hfu (by omega)
    | succ d ih =>
      intro i x3 hi hfu hlo hx3 ls hl
      refine lv_iload hx hb dX1_runs_29 (lv_at hl 4 rfl) ?_
      refine lv_iconst (v := 1) hx hb dX1_runs_31 (by decide) ?_
      refine lv_iadd hx hb dX1_runs_32 ?_
      rw [nI_1 i]
      refine lv_aload_n hx hb dX1_runs_33 rfl (lv_at hl 0 rfl) ?_
      refine va_get (D := (dC, dI)) (ci := 1) (v := .int (nI (n + 1))) (C := RX1) (T := TX1) (N := 12) hx hb hts hin0 hown hK hP 0 rfl rfl 1 (by decide) fl_32 (fun _ h9 => h9) rfl dX1_runs_34 ?_
      refine yb_ge (tgt := 77) (by omega) (by omega) hx hb dX1_runs_37 (by decide) (fun c_1 => ?_) (fun c_1 => ?_)
      · refine lv_iload_n hx hb dX1_runs_77 rfl (lv_at hl 3 rfl) ?_
        exact W.zret (v := x3) hx hb hr (mk_bool hx3) (fun t9 ht hW => ⟨_, rfl, mk_iff ⟨fun q => ⟨q.1, fun j g1 g2 => q.2 j g1 (by omega)⟩, fun q => ⟨q.1, fun j g1 g2 => q.2 j g1 (by omega)⟩⟩ hx3, ht⟩) (fun q h => by cases h) dX1_runs_78
      · refine lv_iload_n hx hb dX1_runs_40 rfl (lv_at hl 3 rfl) ?_
        refine lv_if_eq (tgt := 69) hx hb dX1_runs_41 (by decide) (fun c_2 => ?_) (fun c_2 => ?_)
        · refine lv_iconst (v := 0) hx hb dX1_runs_69 (by decide) ?_
          have hmk : qc_mk 0 (¬ t n < nw - p2 ∧ ∀ j, i0 ≤ j → j < i + 1 → ¬ p2 < t (j + 1) - t j) := qc_mk0 (fun q => mk_z hx3 c_2 ⟨q.1, fun j g1 g2 => q.2 j g1 (by omega)⟩)
          refine lv_istore_n (lv' := [(3, .int 0), (0, .ref (ad 0)), (1, .int (nI i0)), (2, .int p2), (4, .int (nI i))]) hx hb dX1_runs_70 rfl hl (by decide) rfl (fun ls hl => ?_)
          refine lv_iinc (v := (nI (i + 1))) (lv' := [(4, .int (nI (i + 1))), (3, .int 0), (0, .ref (ad 0)), (1, .int (nI i0)), (2, .int p2)]) hx hb dX1_runs_71 hl (k := 4) rfl (yn_inc _) (by decide) rfl (fun ls hl => ?_)
          refine lv_goto (tgt := 29) hx hb dX1_runs_74 (by decide) ?_
          exact ih (i + 1) 0 (by omega) (by omega) (by omega) hmk ls (lv_sub hl [2, 3, 4, 1, 0] rfl)
        · refine lv_aload_n hx hb dX1_runs_44 rfl (lv_at hl 0 rfl) ?_
          refine va_get (D := (dC, dI)) (ci := 1) (v := .ref (ad 1)) (C := RX1) (T := TX1) (N := 12) hx hb hts hin0 hown hK hP 0 rfl rfl 2 (by decide) fl_7 (fun _ h9 => h9) rfl dX1_runs_45 ?_
          refine lv_iload hx hb dX1_runs_48 (lv_at hl 4 rfl) ?_
          refine lv_iconst (v := 1) hx hb dX1_runs_50 (by decide) ?_
          refine lv_iadd hx hb dX1_runs_51 ?_
          rw [nI_1 i]
          refine ya_iald hx hb hK hP 1 0 rfl rfl (j := (i + 1)) (by omega) (by decide) dX1_runs_52 ?_
          refine lv_aload_n hx hb dX1_runs_53 rfl (lv_at hl 0 rfl) ?_
          refine va_get (D := (dC, dI)) (ci := 1) (v := .ref (ad 1)) (C := RX1) (T := TX1) (N := 12) hx hb hts hin0 hown hK hP 0 rfl rfl 2 (by decide) fl_7 (fun _ h9 => h9) rfl dX1_runs_54 ?_
          refine lv_iload hx hb dX1_runs_57 (lv_at hl 4 rfl) ?_
          refine ya_iald hx hb hK hP 1 0 rfl rfl (j := i) (by omega) (by decide) dX1_runs_59 ?_
          refine lv_isub hx hb dX1_runs_60 ?_
          refine lv_iload_n hx hb dX1_runs_61 rfl (lv_at hl 2 rfl) ?_
          refine lv_icmp_gt (tgt := 69) hx hb dX1_runs_62 (by decide) (fun c_3 => ?_) (fun c_3 => ?_)
          · refine lv_iconst (v := 0) hx hb dX1_runs_69 (by decide) ?_
            have hmk : qc_mk 0 (¬ t n < nw - p2 ∧ ∀ j, i0 ≤ j → j < i + 1 → ¬ p2 < t (j + 1) - t j) := qc_mk0 (fun q => q.2 i hlo (by omega) c_3)
            refine lv_istore_n (lv' := [(3, .int 0), (0, .ref (ad 0)), (1, .int (nI i0)), (2, .int p2), (4, .int (nI i))]) hx hb dX1_runs_70 rfl hl (by decide) rfl (fun ls hl => ?_)
            refine lv_iinc (v := (nI (i + 1))) (lv' := [(4, .int (nI (i + 1))), (3, .int 0), (0, .ref (ad 0)), (1, .int (nI i0)), (2, .int p2)]) hx hb dX1_runs_71 hl (k := 4) rfl (yn_inc _) (by decide) rfl (fun ls hl => ?_)
            refine lv_goto (tgt := 29) hx hb dX1_runs_74 (by decide) ?_
            exact ih (i + 1) 0 (by omega) (by omega) (by omega) hmk ls (lv_sub hl [2, 3, 4, 1, 0] rfl)
          · refine lv_iconst (v := 1) hx hb dX1_runs_65 (by decide) ?_
            refine lv_goto (tgt := 70) hx hb dX1_runs_66 (by decide) ?_
            have hmk : qc_mk 1 (¬ t n < nw - p2 ∧ ∀ j, i0 ≤ j → j < i + 1 → ¬ p2 < t (j + 1) - t j) := qc_mk1 ⟨(mk_nz hx3 c_2).1, fun j g1 g2 => (Nat.lt_or_ge j i).elim (fun g => (mk_nz hx3 c_2).2 j g1 g) (fun g => by have e9 : j = i := (by omega); subst e9; exact c_3)⟩
            refine lv_istore_n (lv' := [(3, .int 1), (0, .ref (ad 0)), (1, .int (nI i0)), (2, .int p2), (4, .int (nI i))]) hx hb dX1_runs_70 rfl hl (by decide) rfl (fun ls hl => ?_)
            refine lv_iinc (v := (nI (i + 1))) (lv' := [(4, .int (nI (i + 1))), (3, .int 1), (0, .ref (ad 0)), (1, .int (nI i0)), (2, .int p2)]) hx hb dX1_runs_71 hl (k := 4) rfl (yn_inc _) (by decide) rfl (fun ls hl => ?_)
            refine lv_goto (tgt := 29) hx hb dX1_runs_74 (by decide) ?_
            exact ih (i + 1) 1 (by omega) (by omega) (by omega) hmk ls (lv_sub hl [2, 3, 4, 1, 0] rfl)
  refine lv_icmp_lt (tgt := 24) hx hb dX1_runs_17 (by decide) (fun c_4 => ?_) (fun c_4 => ?_)
  · refine lv_iconst (v := 0) hx hb dX1_runs_24 (by decide) ?_
    refine lv_istore_n (lv' := [(3, .int 0), (0, .ref (ad 0)), (1, .int (nI i0)), (2, .int p2)]) hx hb dX1_runs_25 rfl hl (by decide) rfl (fun ls hl => ?_)
    refine lv_iload_n hx hb dX1_runs_26 rfl (lv_at hl 2 rfl) ?_
    refine lv_istore (lv' := [(4, .int (nI i0)), (3, .int 0), (0, .ref (ad 0)), (1, .int (nI i0)), (2, .int p2)]) hx hb dX1_runs_27 hl (by decide) rfl (fun ls hl => ?_)
    exact loop (n + 1) i0 0 hi0 (by omega) (Nat.le_refl _) (qc_mk0 (fun q => q.1 c_4)) ls (lv_sub hl [2, 3, 4, 1, 0] rfl)
  · refine lv_iconst (v := 1) hx hb dX1_runs_20 (by decide) ?_
    refine lv_goto (tgt := 25) hx hb dX1_runs_21 (by decide) ?_
    refine lv_istore_n (lv' := [(3, .int 1), (0, .ref (ad 0)), (1, .int (nI i0)), (2, .int p2)]) hx hb dX1_runs_25 rfl hl (by decide) rfl (fun ls hl => ?_)
    refine lv_iload_n hx hb dX1_runs_26 rfl (lv_at hl 2 rfl) ?_
    refine lv_istore (lv' := [(4, .int (nI i0)), (3, .int 1), (0, .ref (ad 0)), (1, .int (nI i0)), (2, .int p2)]) hx hb dX1_runs_27 hl (by decide) rfl (fun ls hl => ?_)
    exact loop (n + 1) i0 1 hi0 (by omega) (Nat.le_refl _) (qc_mk1 ⟨c_4, fun j g1 g2 => absurd g2 (by omega)⟩) ls (lv_sub hl [2, 3, 4, 1, 0] rfl)
