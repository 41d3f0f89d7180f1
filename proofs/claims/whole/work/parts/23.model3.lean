/-! the model's loops over its sorted row -/
theorem yn_n0 {k : Nat} (h : 0 < k) (h2 : k < 1000) : ¬ nI k = 0 := fun q => by
  have e := congrArg Int32.toInt q
  rw [nI_toInt (by omega), show (0 : Int32).toInt = 0 from by decide] at e
  omega
def ms_f (so : Nat → Int32) : Nat → Int32
  | 0 => 0
  | k + 1 => ms_f so k + so k
def mu_f (so : Nat → Int32) : Nat → Nat
  | 0 => 0
  | k + 1 => if k = 0 ∨ ¬ so k = so (k - 1) then mu_f so k + 1 else mu_f so k
def mb_f (so : Nat → Int32) (x : Int32) : Nat → Nat
  | 0 => 0
  | k + 1 => if x ≤ so k then mb_f so x k else mb_f so x k + 1
def mm_f (so : Nat → Int32) (hd : Nat) (p2 : Int32) : Int32 := if p2 = 0 then nI hd else if p2 = 1 then ms_f so hd else if p2 = 2 then nI (mu_f so hd) else nI (mo_f so hd).2.1
theorem mu_le (so : Nat → Int32) : ∀ k, mu_f so k ≤ k
  | 0 => Nat.le_refl 0
  | k + 1 => by have := mu_le so k; unfold mu_f; split <;> omega
theorem mo_some (so : Nat → Int32) : ∀ k, 0 < k → 0 < (mo_f so k).2.1 ∧ ∃ j, (mo_f so k).1 = some j := by
  intro k
  induction k with
  | zero => intro h; exact absurd h (Nat.lt_irrefl 0)
  | succ k ih =>
    intro _
    obtain ⟨bo, f9, fr, hq⟩ : ∃ bo f9 fr, mo_f so k = (bo, f9, fr) := ⟨_, _, _, rfl⟩
    rw [mo_st hq rfl]
    generalize (if 0 < k ∧ ¬ so k = so (k - 1) then k else fr) = F
    by_cases c : f9 < k - F + 1
    · rw [if_pos c]; exact ⟨Nat.succ_pos _, F, rfl⟩
    · rw [if_neg c]
      rcases Nat.eq_zero_or_pos k with z | z
      · subst z
        have e : f9 = 0 := (congrArg (fun x => x.2.1) hq).symm
        exact absurd (by rw [e]; exact Nat.succ_pos _) c
      · have := ih z
        rw [hq] at this
        exact this
set_option maxRecDepth 100000 in
set_option maxHeartbeats 4000000 in
/-- below(w, v) -/
theorem m_below (l : Launch) (dC : Nat → ClassId) (dI : Nat → Nat → Nat) (ca : Nat → ClassId) (ad : Nat → Nat) (sz : Nat) (th : Int32) (t : Nat → Int32) (k : Nat → Nat) (v : Nat → Int32) (n : Nat) (nw : Int32) (w : Nat) (kd : Nat → Int32) (ln : Nat → Int32) (hd : Nat) (so : Nat → Int32) (fq : Nat) (p1 p2 : Int32) (hn : n ≤ 300) (hk8 : ∀ j, j < n → k j < 8) (hw6 : w ≤ 6) : Met l yX1_below wsX1_below ({ frames := 3, cells := 0, slots := 0, locals := 71 }) (va_Pc [.ref (ad 0), .int p1, .int p2] (mdPre dC dI ca ad sz th t k v n nw w kd ln hd so fq)) (va_Qi (fun (r : Int32) (u : Int32 × Nat × (Nat → Int32) × Nat) => (∃ wi, wi < w ∧ p1 = nI wi ∧ u.1 = 0 ∧ mh_ok v (fun j => mi_in t k n nw (kd wi) (ln wi) j) n u.2.1 u.2.2.1 ∧ r = nI (mb_f u.2.2.1 p2 u.2.1)) ∨ (¬ qx_win w p1 ∧ u.1 = 1)) (fun u t9 => mdAt dC dI ca ad (va_A (md ca ad th t k v n nw w kd ln hd so fq) sz) u.1 t k v n nw w kd ln u.2.1 u.2.2.1 u.2.2.2 t9) (va_A (md ca ad th t k v n nw w kd ln hd so fq) sz)) 0 0 (va_A (md ca ad th t k v n nw w kd ln hd so fq) sz) := by
  refine Met.ofW (cc := cX1_below) (maxL := 5) (ret := (some .int)) (by decide) rfl ?_
  intro p e s m args below meth c s₁ B hml hv
  obtain ⟨rfl, hsz, hP, hK, hD0⟩ := hv
  have hx := B.exec
  have hb := B.bytes
  have hr := B.returns
  have hts := atoms_spec (ws := wsX1_below) B.pre
  have hown : s.vm.findClass RX1 = some m.cls := findClass_of_methodNamed B.named
  have hlocks := B.notSynchronized
  subst hsz
  have hin0 : ∀ w ∈ u_ws RX1 TX1 12, w ∈ wsX1_below := fun w h => List.mem_cons_of_mem _ (wiX1 w h)
  have fl_25 := hts _ (List.mem_cons_of_mem _ flX1_25)
  have fl_58 := hts _ (List.mem_cons_of_mem _ flX1_58)
  have hD := hD0.self (sz := s.heap.size)
  generalize hAe : va_A (md ca ad th t k v n nw w kd ln hd so fq) s.heap.size = A at hD ⊢
  have hA : ∀ q : Nat, s.heap.size ≤ q → A q := fun q h => by rw [← hAe]; exact Or.inr h
  have hS : va_S A s.heap s.heap [] := va_S.rf
  have hl := lv_entry ([.ref (ad 0), .int p1, .int p2]) (n := 5) (Nat.le_of_ble_eq_true rfl)
  rw [lg_entry_eq]
  generalize (lg_sl ([.ref (ad 0), .int p1, .int p2]) ++ List.replicate (5 - (lg_sl ([.ref (ad 0), .int p1, .int p2])).length) Slot.unset).toArray = ls at hl ⊢
  have hl : lv_has ls 5 [(0, .ref (ad 0)), (1, .int p1), (2, .int p2)] := hl
  refine lv_aload_n hx hb dX1_below_0 rfl (lv_at hl 0 rfl) ?_
  refine lv_aload_n hx hb dX1_below_1 rfl (lv_at hl 0 rfl) ?_
  refine lv_iload_n hx hb dX1_below_2 rfl (lv_at hl 1 rfl) ?_
  refine vp_callSi (W.runV (As := [.int p1]) (rest := [.ref (ad 0)]) ⟨hx, hb, hml, hown, hts⟩ (m_isWindow l dC dI ca ad _ th t k v n nw w kd ln hd so fq  p1 hw6) (cwV 1 hts (gg_V mlX1_67 imX1_isWindow seX1_isWindow in_WindowMetersModel kwX1_isWindow) rfl rfl rfl (by decide +kernel) ⟨Nat.le_of_ble_eq_true rfl, Nat.le_of_ble_eq_true rfl⟩) (md_preV hK hP hD [.int p1]) rfl rfl hl.1 rfl (lv_room (Nat.le_of_ble_eq_true rfl)) dX1_below_3 ⟨Nat.le_of_ble_eq_true rfl, Nat.le_of_ble_eq_true rfl⟩) (fun r_1 hr_2 => ?_)
  refine lv_if_ne (tgt := 13) hx hb dX1_below_6 (by decide) (fun c_3 => ?_) (fun c_3 => ?_)
  · refine lv_iconst (v := 0) hx hb dX1_below_13 (by decide) ?_
    refine lv_iconst (v := 0) hx hb dX1_below_14 (by decide) ?_
    have hFc := va_free (wc := md ca ad th t k v n nw w kd ln hd so fq) hD hS hA [0, 1, 2, 3, 4, 5, 6] rfl
    refine va_calli (va_runV (As := [.int 0, .int 0]) (rest := []) ⟨hx, hb, hml, hown, hts⟩ (m_refuse l dC dI ca ad _ th t k v n nw w kd ln hd so fq 0 0) (cwV 2 hts (gg_V mlX1_46 imX1_refuse seX1_refuse in_WindowMetersModel kwX1_refuse) rfl rfl rfl (by decide +kernel) ⟨Nat.le_of_ble_eq_true rfl, Nat.le_of_ble_eq_true rfl⟩) (md_preV hK hP hD [.int 0, .int 0]) rfl rfl hl.1 rfl (lv_room (Nat.le_of_ble_eq_true rfl)) dX1_below_15 ⟨Nat.le_of_ble_eq_true rfl, Nat.le_of_ble_eq_true rfl⟩) hS (fun q _ h => hFc q h) hFc (fun r_4 uz9 t9 H1 locs ht9 hvm hw_5 hB hz1 hk1 hS => ?_)
    obtain ⟨hP, -, hD1⟩ := hB
    rw [ht9] at hP
    have hD := hD1.weaken (fun k q hk h => hFc q.1 h)
    rw [show mr_th 0 0 = 0 from by decide] at hP hD
    generalize H1 = H at hP hS ⊢
    have hP : va_P (dC, dI) vwCl (md ca ad 0 t k v n nw w kd ln hd so fq) H := hP
    have hD : va_D A (md ca ad 0 t k v n nw w kd ln hd so fq) := hD
    obtain rfl : r_4 = 0 := mk_no hw_5 (by decide)
    refine lv_if_eq (tgt := 23) hx hb dX1_below_18 (by decide) (fun c_6 => ?_) (fun c_6 => ?_)
    · obtain ⟨wi, hwi, hpw⟩ := mk_nz hr_2 c_3
      rw [hpw] at hl
      have hl : lv_has ls 5 [(0, .ref (ad 0)), (1, .int (nI wi)), (2, .int p2)] := hl
      refine lv_aload_n hx hb dX1_below_23 rfl (lv_at hl 0 rfl) ?_
      refine lv_iload_n hx hb dX1_below_24 rfl (lv_at hl 1 rfl) ?_
      have hFc := va_free (wc := md ca ad 0 t k v n nw w kd ln hd so fq) hD hS hA [0, 1, 2, 3, 4, 5, 6] rfl
      refine va_callv (va_runV (As := [.int (nI wi)]) (rest := []) ⟨hx, hb, hml, hown, hts⟩ (m_hold l dC dI ca ad _ 0 t k v n nw w kd ln hd so fq wi  hn hk8 (by omega)) (cwV 1 hts (gg_V mlX1_71 imX1_hold seX1_hold in_WindowMetersModel kwX1_hold) rfl rfl rfl (by decide +kernel) ⟨Nat.le_of_ble_eq_true rfl, Nat.le_of_ble_eq_true rfl⟩) (md_preV hK hP hD [.int (nI wi)]) rfl rfl hl.1 rfl (lv_room (Nat.le_of_ble_eq_true rfl)) dX1_below_25 ⟨Nat.le_of_ble_eq_true rfl, Nat.le_of_ble_eq_true rfl⟩) hS (fun q _ h => hFc q h) hFc (fun u9 t9 H1 locs ht9 hvm hw_7 hB hz1 hk1 hS => ?_)
      obtain ⟨hP, -, hD1⟩ := hB
      rw [ht9] at hP
      have hD := hD1.weaken (fun k q hk h => hFc q.1 h)
      generalize H1 = H at hP hS ⊢
      have hP : va_P (dC, dI) vwCl (md ca ad 0 t k v n nw w kd ln u9.1 u9.2 fq) H := hP
      have hD : va_D A (md ca ad 0 t k v n nw w kd ln u9.1 u9.2 fq) := hD
      have hh9 : u9.1 ≤ 300 := Nat.le_trans hw_7.1 hn
      refine lv_iconst (v := 0) hx hb dX1_below_28 (by decide) ?_
      refine lv_istore_n (lv' := [(3, .int 0), (0, .ref (ad 0)), (1, .int (nI wi)), (2, .int p2)]) hx hb dX1_below_29 rfl hl (by decide) rfl (fun ls hl => ?_)
      refine lv_iconst (v := 0) hx hb dX1_below_30 (by decide) ?_
      refine lv_istore (lv' := [(4, .int 0), (3, .int 0), (0, .ref (ad 0)), (1, .int (nI wi)), (2, .int p2)]) hx hb dX1_below_31 hl (by decide) rfl (fun ls hl => ?_)
      have loop : ∀ (d i : Nat), i ≤ u9.1 → u9.1 + 1 ≤ i + d → ∀ (ls : Array Slot), lv_has ls 5 [(0, .ref (ad 0)), (1, .int (nI wi)), (2, .int p2), (3, .int (nI (mb_f u9.2 p2 i))), (4, .int (nI i))] → W p l e (headSpec wsX1_below ({ frames := 3, cells := 0, slots := 0, locals := 71 })).room s m ([.ref (ad 0), .int p1, .int p2] : List Value).toArray below meth c H locs 0 0 (MQ below (va_Qi (fun (r : Int32) (u : Int32 × Nat × (Nat → Int32) × Nat) => (∃ wi, wi < w ∧ p1 = nI wi ∧ u.1 = 0 ∧ mh_ok v (fun j => mi_in t k n nw (kd wi) (ln wi) j) n u.2.1 u.2.2.1 ∧ r = nI (mb_f u.2.2.1 p2 u.2.1)) ∨ (¬ qx_win w p1 ∧ u.1 = 1)) (fun u t9 => mdAt dC dI ca ad A u.1 t k v n nw w kd ln u.2.1 u.2.2.1 u.2.2.2 t9) A) ([.ref (ad 0), .int p1, .int p2] : List Value).toArray s 0 0 A) (F0 m 33 ls []) := by
        intro d
        induction d with
        | zero =>
          intro i hi hfu
          exact absurd hfu (by omega)
        | succ d ih =>
          intro i hi hfu  ls hl
          refine lv_iload hx hb dX1_below_33 (lv_at hl 4 rfl) ?_
          refine lv_aload_n hx hb dX1_below_35 rfl (lv_at hl 0 rfl) ?_
          refine va_get (D := (dC, dI)) (ci := 1) (v := .int (nI u9.1)) (C := RX1) (T := TX1) (N := 12) hx hb hts hin0 hown hK hP 0 rfl rfl 9 (by decide) fl_58 (fun _ h9 => h9) rfl dX1_below_36 ?_
          refine yb_ge (tgt := 67) (by omega) (by omega) hx hb dX1_below_39 (by decide) (fun c_8 => ?_) (fun c_8 => ?_)
          · refine lv_iload_n hx hb dX1_below_67 rfl (lv_at hl 3 rfl) ?_
            have hie : i = u9.1 := by omega
            exact W.iret (v := (nI (mb_f u9.2 p2 i))) hx hb hr (fun t9 ht hW => ⟨⟨_, (0, u9.1, u9.2, fq), rfl, Or.inl ⟨wi, hwi, hpw, rfl, hw_7, by rw [hie]⟩, by rw [ht]; exact hP, va_K.moved hW.alike hK, hD⟩, hS.F ht⟩) hS.2.2 dX1_below_68
          · refine lv_aload_n hx hb dX1_below_42 rfl (lv_at hl 0 rfl) ?_
            refine va_get (D := (dC, dI)) (ci := 1) (v := .ref (ad 6)) (C := RX1) (T := TX1) (N := 12) hx hb hts hin0 hown hK hP 0 rfl rfl 10 (by decide) fl_25 (fun _ h9 => h9) rfl dX1_below_43 ?_
            refine lv_iload hx hb dX1_below_46 (lv_at hl 4 rfl) ?_
            refine ya_iald hx hb hK hP 6 5 rfl rfl (j := i) (by omega) (by decide) dX1_below_48 ?_
            refine lv_iload_n hx hb dX1_below_49 rfl (lv_at hl 2 rfl) ?_
            refine lv_icmp_ge (tgt := 59) hx hb dX1_below_50 (by decide) (fun c_9 => ?_) (fun c_9 => ?_)
            · refine lv_iload_n hx hb dX1_below_59 rfl (lv_at hl 3 rfl) ?_
              refine lv_istore_n (lv' := [(3, .int (nI (mb_f u9.2 p2 i))), (0, .ref (ad 0)), (1, .int (nI wi)), (2, .int p2), (4, .int (nI i))]) hx hb dX1_below_60 rfl hl (by decide) rfl (fun ls hl => ?_)
              refine lv_iinc (v := (nI (i + 1))) (lv' := [(4, .int (nI (i + 1))), (3, .int (nI (mb_f u9.2 p2 i))), (0, .ref (ad 0)), (1, .int (nI wi)), (2, .int p2)]) hx hb dX1_below_61 hl (k := 4) rfl (yn_inc _) (by decide) rfl (fun ls hl => ?_)
              refine lv_goto (tgt := 33) hx hb dX1_below_64 (by decide) ?_
              exact ih (i + 1) (by omega) (by omega) ls (by rw [mb_f, if_pos c_9]; exact (lv_sub hl [2, 3, 4, 1, 0] rfl))
            · refine lv_iload_n hx hb dX1_below_53 rfl (lv_at hl 3 rfl) ?_
              refine lv_iconst (v := 1) hx hb dX1_below_54 (by decide) ?_
              refine lv_iadd hx hb dX1_below_55 ?_
              rw [nI_1 (mb_f u9.2 p2 i)]
              refine lv_goto (tgt := 60) hx hb dX1_below_56 (by decide) ?_
              refine lv_istore_n (lv' := [(3, .int (nI (mb_f u9.2 p2 i + 1))), (0, .ref (ad 0)), (1, .int (nI wi)), (2, .int p2), (4, .int (nI i))]) hx hb dX1_below_60 rfl hl (by decide) rfl (fun ls hl => ?_)
              refine lv_iinc (v := (nI (i + 1))) (lv' := [(4, .int (nI (i + 1))), (3, .int (nI (mb_f u9.2 p2 i + 1))), (0, .ref (ad 0)), (1, .int (nI wi)), (2, .int p2)]) hx hb dX1_below_61 hl (k := 4) rfl (yn_inc _) (by decide) rfl (fun ls hl => ?_)
              refine lv_goto (tgt := 33) hx hb dX1_below_64 (by decide) ?_
              exact ih (i + 1) (by omega) (by omega) ls (by rw [mb_f, if_neg c_9]; exact (lv_sub hl [2, 3, 4, 1, 0] rfl))
      exact loop (u9.1 + 1) 0 (Nat.zero_le _) (by omega) ls (lv_sub hl [2, 3, 4, 1, 0] rfl)
    · first | exact absurd rfl c_6 | exact absurd c_6 (by decide)
  · refine lv_iconst (v := 1) hx hb dX1_below_9 (by decide) ?_
    refine lv_goto (tgt := 14) hx hb dX1_below_10 (by decide) ?_
    refine lv_iconst (v := 0) hx hb dX1_below_14 (by decide) ?_
    have hFc := va_free (wc := md ca ad th t k v n nw w kd ln hd so fq) hD hS hA [0, 1, 2, 3, 4, 5, 6] rfl
    refine va_calli (va_runV (As := [.int 1, .int 0]) (rest := []) ⟨hx, hb, hml, hown, hts⟩ (m_refuse l dC dI ca ad _ th t k v n nw w kd ln hd so fq 1 0) (cwV 2 hts (gg_V mlX1_46 imX1_refuse seX1_refuse in_WindowMetersModel kwX1_refuse) rfl rfl rfl (by decide +kernel) ⟨Nat.le_of_ble_eq_true rfl, Nat.le_of_ble_eq_true rfl⟩) (md_preV hK hP hD [.int 1, .int 0]) rfl rfl hl.1 rfl (lv_room (Nat.le_of_ble_eq_true rfl)) dX1_below_15 ⟨Nat.le_of_ble_eq_true rfl, Nat.le_of_ble_eq_true rfl⟩) hS (fun q _ h => hFc q h) hFc (fun r_10 uz9 t9 H1 locs ht9 hvm hw_11 hB hz1 hk1 hS => ?_)
    obtain ⟨hP, -, hD1⟩ := hB
    rw [ht9] at hP
    have hD := hD1.weaken (fun k q hk h => hFc q.1 h)
    rw [show mr_th 1 0 = 1 from by decide] at hP hD
    generalize H1 = H at hP hS ⊢
    have hP : va_P (dC, dI) vwCl (md ca ad 1 t k v n nw w kd ln hd so fq) H := hP
    have hD : va_D A (md ca ad 1 t k v n nw w kd ln hd so fq) := hD
    obtain rfl : r_10 = 1 := mk_yes hw_11 (by decide)
    refine lv_if_eq (tgt := 23) hx hb dX1_below_18 (by decide) (fun c_12 => ?_) (fun c_12 => ?_)
    · first | exact absurd rfl c_12 | exact absurd c_12 (by decide)
    · refine lv_iconst (v := 0) hx hb dX1_below_21 (by decide) ?_
      exact W.iret (v := 0) hx hb hr (fun t9 ht hW => ⟨⟨_, (1, hd, so, fq), rfl, Or.inr ⟨mk_z hr_2 c_3, rfl⟩, by rw [ht]; exact hP, va_K.moved hW.alike hK, hD⟩, hS.F ht⟩) hS.2.2 dX1_below_22

set_option maxRecDepth 100000 in
set_option maxHeartbeats 4000000 in
/-- has(w, i) -/
theorem m_has (l : Launch) (dC : Nat → ClassId) (dI : Nat → Nat → Nat) (ca : Nat → ClassId) (ad : Nat → Nat) (sz : Nat) (th : Int32) (t : Nat → Int32) (k : Nat → Nat) (v : Nat → Int32) (n : Nat) (nw : Int32) (w : Nat) (kd : Nat → Int32) (ln : Nat → Int32) (hd : Nat) (so : Nat → Int32) (fq : Nat) (p1 p2 : Int32) (hn : n ≤ 300) (hk8 : ∀ j, j < n → k j < 8) (hw6 : w ≤ 6) : Met l yX1_has wsX1_has ({ frames := 2, cells := 0, slots := 0, locals := 48 }) (va_Pc [.ref (ad 0), .int p1, .int p2] (mdPre dC dI ca ad sz th t k v n nw w kd ln hd so fq)) (va_Qi (fun (r : Int32) (u : Int32) => (∃ wi i9, wi < w ∧ p1 = nI wi ∧ i9 < n ∧ p2 = nI i9 ∧ u = 0 ∧ qc_mk r (mi_in t k n nw (kd wi) (ln wi) i9)) ∨ (¬ (qx_win w p1 ∧ qx_win n p2) ∧ u = 1)) (fun u t9 => mdAt dC dI ca ad (va_A (md ca ad th t k v n nw w kd ln hd so fq) sz) u t k v n nw w kd ln hd so fq t9) (va_A (md ca ad th t k v n nw w kd ln hd so fq) sz)) 0 0 (va_A (md ca ad th t k v n nw w kd ln hd so fq) sz) := by
  refine Met.ofW (cc := cX1_has) (maxL := 3) (ret := (some .boolean)) (by decide) rfl ?_
  intro p e s m args below meth c s₁ B hml hv
  obtain ⟨rfl, hsz, hP, hK, hD0⟩ := hv
  have hx := B.exec
  have hb := B.bytes
  have hr := B.returns
  have hts := atoms_spec (ws := wsX1_has) B.pre
  have hown : s.vm.findClass RX1 = some m.cls := findClass_of_methodNamed B.named
  have hlocks := B.notSynchronized
  subst hsz
  have hin0 : ∀ w ∈ u_ws RX1 TX1 12, w ∈ wsX1_has := fun w h => List.mem_cons_of_mem _ (wiX1 w h)
  have fl_32 := hts _ (List.mem_cons_of_mem _ flX1_32)
  have hD := hD0.self (sz := s.heap.size)
  generalize hAe : va_A (md ca ad th t k v n nw w kd ln hd so fq) s.heap.size = A at hD ⊢
  have hA : ∀ q : Nat, s.heap.size ≤ q → A q := fun q h => by rw [← hAe]; exact Or.inr h
  have hS : va_S A s.heap s.heap [] := va_S.rf
  have hl := lv_entry ([.ref (ad 0), .int p1, .int p2]) (n := 3) (Nat.le_of_ble_eq_true rfl)
  rw [lg_entry_eq]
  generalize (lg_sl ([.ref (ad 0), .int p1, .int p2]) ++ List.replicate (3 - (lg_sl ([.ref (ad 0), .int p1, .int p2])).length) Slot.unset).toArray = ls at hl ⊢
  have hl : lv_has ls 3 [(0, .ref (ad 0)), (1, .int p1), (2, .int p2)] := hl
  refine lv_aload_n hx hb dX1_has_0 rfl (lv_at hl 0 rfl) ?_
  refine lv_aload_n hx hb dX1_has_1 rfl (lv_at hl 0 rfl) ?_
  refine lv_iload_n hx hb dX1_has_2 rfl (lv_at hl 1 rfl) ?_
  refine vp_callSi (W.runV (As := [.int p1]) (rest := [.ref (ad 0)]) ⟨hx, hb, hml, hown, hts⟩ (m_isWindow l dC dI ca ad _ th t k v n nw w kd ln hd so fq  p1 hw6) (cwV 1 hts (gg_V mlX1_67 imX1_isWindow seX1_isWindow in_WindowMetersModel kwX1_isWindow) rfl rfl rfl (by decide +kernel) ⟨Nat.le_of_ble_eq_true rfl, Nat.le_of_ble_eq_true rfl⟩) (md_preV hK hP hD [.int p1]) rfl rfl hl.1 rfl (lv_room (Nat.le_of_ble_eq_true rfl)) dX1_has_3 ⟨Nat.le_of_ble_eq_true rfl, Nat.le_of_ble_eq_true rfl⟩) (fun r_1 hr_2 => ?_)
  refine lv_if_eq (tgt := 23) hx hb dX1_has_6 (by decide) (fun c_3 => ?_) (fun c_3 => ?_)
  · refine lv_iconst (v := 1) hx hb dX1_has_23 (by decide) ?_
    refine lv_goto (tgt := 28) hx hb dX1_has_24 (by decide) ?_
    refine lv_iconst (v := 0) hx hb dX1_has_28 (by decide) ?_
    have hFc := va_free (wc := md ca ad th t k v n nw w kd ln hd so fq) hD hS hA [0, 1, 2, 3, 4, 5, 6] rfl
    refine va_calli (va_runV (As := [.int 1, .int 0]) (rest := []) ⟨hx, hb, hml, hown, hts⟩ (m_refuse l dC dI ca ad _ th t k v n nw w kd ln hd so fq 1 0) (cwV 2 hts (gg_V mlX1_46 imX1_refuse seX1_refuse in_WindowMetersModel kwX1_refuse) rfl rfl rfl (by decide +kernel) ⟨Nat.le_of_ble_eq_true rfl, Nat.le_of_ble_eq_true rfl⟩) (md_preV hK hP hD [.int 1, .int 0]) rfl rfl hl.1 rfl (lv_room (Nat.le_of_ble_eq_true rfl)) dX1_has_29 ⟨Nat.le_of_ble_eq_true rfl, Nat.le_of_ble_eq_true rfl⟩) hS (fun q _ h => hFc q h) hFc (fun r_4 uz9 t9 H1 locs ht9 hvm hw_5 hB hz1 hk1 hS => ?_)
    obtain ⟨hP, -, hD1⟩ := hB
    rw [ht9] at hP
    have hD := hD1.weaken (fun k q hk h => hFc q.1 h)
    rw [show mr_th 1 0 = 1 from by decide] at hP hD
    generalize H1 = H at hP hS ⊢
    have hP : va_P (dC, dI) vwCl (md ca ad 1 t k v n nw w kd ln hd so fq) H := hP
    have hD : va_D A (md ca ad 1 t k v n nw w kd ln hd so fq) := hD
    obtain rfl : r_4 = 1 := mk_yes hw_5 (by decide)
    refine lv_if_eq (tgt := 37) hx hb dX1_has_32 (by decide) (fun c_6 => ?_) (fun c_6 => ?_)
    · first | exact absurd rfl c_6 | exact absurd c_6 (by decide)
    · refine lv_iconst (v := 0) hx hb dX1_has_35 (by decide) ?_
      exact W.zret (v := 0) hx hb hr (by decide) (fun t9 ht hW => ⟨⟨_, 1, rfl, Or.inr ⟨fun q => mk_z hr_2 c_3 q.1, rfl⟩, by rw [ht]; exact hP, va_K.moved hW.alike hK, hD⟩, hS.F ht⟩) hS.2.2 dX1_has_36
  · refine lv_iload_n hx hb dX1_has_9 rfl (lv_at hl 2 rfl) ?_
    refine lv_iconst (v := 0) hx hb dX1_has_10 (by decide) ?_
    refine lv_aload_n hx hb dX1_has_11 rfl (lv_at hl 0 rfl) ?_
    refine va_get (D := (dC, dI)) (ci := 1) (v := .int (nI n)) (C := RX1) (T := TX1) (N := 12) hx hb hts hin0 hown hK hP 0 rfl rfl 1 (by decide) fl_32 (fun _ h9 => h9) rfl dX1_has_12 ?_
    refine lv_iconst (v := 1) hx hb dX1_has_15 (by decide) ?_
    refine lv_isub hx hb dX1_has_16 ?_
    refine vp_callSi (W.runS (As := [.int p2, .int 0, .int ((nI n) - 1)]) (rest := [.ref (ad 0)]) ⟨hx, hb, hml, hown, hts⟩ (m_in l p2 0 ((nI n) - 1)) (va_cwS 3 hts (gg_S mlX1_41 stX1_in in_WindowMetersModel kwX1_in) rfl rfl rfl (by decide +kernel) ⟨Nat.le_of_ble_eq_true rfl, Nat.le_of_ble_eq_true rfl⟩) preEq rfl rfl hl.1 rfl (lv_room (Nat.le_of_ble_eq_true rfl)) dX1_has_17 ⟨Nat.le_of_ble_eq_true rfl, Nat.le_of_ble_eq_true rfl⟩) (fun r_7 hr_8 => ?_)
    refine lv_if_ne (tgt := 27) hx hb dX1_has_20 (by decide) (fun c_9 => ?_) (fun c_9 => ?_)
    · refine lv_iconst (v := 0) hx hb dX1_has_27 (by decide) ?_
      refine lv_iconst (v := 0) hx hb dX1_has_28 (by decide) ?_
      have hFc := va_free (wc := md ca ad th t k v n nw w kd ln hd so fq) hD hS hA [0, 1, 2, 3, 4, 5, 6] rfl
      refine va_calli (va_runV (As := [.int 0, .int 0]) (rest := []) ⟨hx, hb, hml, hown, hts⟩ (m_refuse l dC dI ca ad _ th t k v n nw w kd ln hd so fq 0 0) (cwV 2 hts (gg_V mlX1_46 imX1_refuse seX1_refuse in_WindowMetersModel kwX1_refuse) rfl rfl rfl (by decide +kernel) ⟨Nat.le_of_ble_eq_true rfl, Nat.le_of_ble_eq_true rfl⟩) (md_preV hK hP hD [.int 0, .int 0]) rfl rfl hl.1 rfl (lv_room (Nat.le_of_ble_eq_true rfl)) dX1_has_29 ⟨Nat.le_of_ble_eq_true rfl, Nat.le_of_ble_eq_true rfl⟩) hS (fun q _ h => hFc q h) hFc (fun r_10 uz9 t9 H1 locs ht9 hvm hw_11 hB hz1 hk1 hS => ?_)
      obtain ⟨hP, -, hD1⟩ := hB
      rw [ht9] at hP
      have hD := hD1.weaken (fun k q hk h => hFc q.1 h)
      rw [show mr_th 0 0 = 0 from by decide] at hP hD
      generalize H1 = H at hP hS ⊢
      have hP : va_P (dC, dI) vwCl (md ca ad 0 t k v n nw w kd ln hd so fq) H := hP
      have hD : va_D A (md ca ad 0 t k v n nw w kd ln hd so fq) := hD
      obtain rfl : r_10 = 0 := mk_no hw_11 (by decide)
      refine lv_if_eq (tgt := 37) hx hb dX1_has_32 (by decide) (fun c_12 => ?_) (fun c_12 => ?_)
      · obtain ⟨wi, hwi, hpw⟩ := mk_nz hr_2 c_3
        rw [hpw] at hl
        have hl : lv_has ls 3 [(0, .ref (ad 0)), (1, .int (nI wi)), (2, .int p2)] := hl
        obtain ⟨i9, hi9, hpi⟩ := (qx_in_pred (by omega)).mp (mk_nz hr_8 c_9)
        rw [hpi] at hl
        have hl : lv_has ls 3 [(0, .ref (ad 0)), (1, .int (nI wi)), (2, .int (nI i9))] := hl
        refine lv_aload_n hx hb dX1_has_37 rfl (lv_at hl 0 rfl) ?_
        refine lv_iload_n hx hb dX1_has_38 rfl (lv_at hl 1 rfl) ?_
        refine lv_iload_n hx hb dX1_has_39 rfl (lv_at hl 2 rfl) ?_
        refine vp_callSi (W.runV (As := [.int (nI wi), .int (nI i9)]) (rest := []) ⟨hx, hb, hml, hown, hts⟩ (m_isIn l dC dI ca ad _ 0 t k v n nw w kd ln hd so fq wi i9  hn hk8 (by omega) hi9) (cwV 2 hts (gg_V mlX1_61 imX1_isIn seX1_isIn in_WindowMetersModel kwX1_isIn) rfl rfl rfl (by decide +kernel) ⟨Nat.le_of_ble_eq_true rfl, Nat.le_of_ble_eq_true rfl⟩) (md_preV hK hP hD [.int (nI wi), .int (nI i9)]) rfl rfl hl.1 rfl (lv_room (Nat.le_of_ble_eq_true rfl)) dX1_has_40 ⟨Nat.le_of_ble_eq_true rfl, Nat.le_of_ble_eq_true rfl⟩) (fun r_13 hr_14 => ?_)
        exact W.zret (v := r_13) hx hb hr (mk_bool hr_14) (fun t9 ht hW => ⟨⟨_, 0, rfl, Or.inl ⟨wi, i9, hwi, hpw, hi9, hpi, rfl, hr_14⟩, by rw [ht]; exact hP, va_K.moved hW.alike hK, hD⟩, hS.F ht⟩) hS.2.2 dX1_has_43
      · first | exact absurd rfl c_12 | exact absurd c_12 (by decide)
    · refine lv_iconst (v := 1) hx hb dX1_has_23 (by decide) ?_
      refine lv_goto (tgt := 28) hx hb dX1_has_24 (by decide) ?_
      refine lv_iconst (v := 0) hx hb dX1_has_28 (by decide) ?_
      have hFc := va_free (wc := md ca ad th t k v n nw w kd ln hd so fq) hD hS hA [0, 1, 2, 3, 4, 5, 6] rfl
      refine va_calli (va_runV (As := [.int 1, .int 0]) (rest := []) ⟨hx, hb, hml, hown, hts⟩ (m_refuse l dC dI ca ad _ th t k v n nw w kd ln hd so fq 1 0) (cwV 2 hts (gg_V mlX1_46 imX1_refuse seX1_refuse in_WindowMetersModel kwX1_refuse) rfl rfl rfl (by decide +kernel) ⟨Nat.le_of_ble_eq_true rfl, Nat.le_of_ble_eq_true rfl⟩) (md_preV hK hP hD [.int 1, .int 0]) rfl rfl hl.1 rfl (lv_room (Nat.le_of_ble_eq_true rfl)) dX1_has_29 ⟨Nat.le_of_ble_eq_true rfl, Nat.le_of_ble_eq_true rfl⟩) hS (fun q _ h => hFc q h) hFc (fun r_15 uz9 t9 H1 locs ht9 hvm hw_16 hB hz1 hk1 hS => ?_)
      obtain ⟨hP, -, hD1⟩ := hB
      rw [ht9] at hP
      have hD := hD1.weaken (fun k q hk h => hFc q.1 h)
      rw [show mr_th 1 0 = 1 from by decide] at hP hD
      generalize H1 = H at hP hS ⊢
      have hP : va_P (dC, dI) vwCl (md ca ad 1 t k v n nw w kd ln hd so fq) H := hP
      have hD : va_D A (md ca ad 1 t k v n nw w kd ln hd so fq) := hD
      obtain rfl : r_15 = 1 := mk_yes hw_16 (by decide)
      refine lv_if_eq (tgt := 37) hx hb dX1_has_32 (by decide) (fun c_17 => ?_) (fun c_17 => ?_)
      · first | exact absurd rfl c_17 | exact absurd c_17 (by decide)
      · refine lv_iconst (v := 0) hx hb dX1_has_35 (by decide) ?_
        exact W.zret (v := 0) hx hb hr (by decide) (fun t9 ht hW => ⟨⟨_, 1, rfl, Or.inr ⟨fun q => mk_z hr_8 c_9 ((qx_in_pred (by omega)).mpr q.2), rfl⟩, by rw [ht]; exact hP, va_K.moved hW.alike hK, hD⟩, hS.F ht⟩) hS.2.2 dX1_has_36

set_option maxRecDepth 100000 in
set_option maxHeartbeats 4000000 in
/-- meter(w, what) -/
theorem m_meter (l : Launch) (dC : Nat → ClassId) (dI : Nat → Nat → Nat) (ca : Nat → ClassId) (ad : Nat → Nat) (sz : Nat) (th : Int32) (t : Nat → Int32) (k : Nat → Nat) (v : Nat → Int32) (n : Nat) (nw : Int32) (w : Nat) (kd : Nat → Int32) (ln : Nat → Int32) (hd : Nat) (so : Nat → Int32) (fq : Nat) (p1 p2 : Int32) (hn : n ≤ 300) (hk8 : ∀ j, j < n → k j < 8) (hw6 : w ≤ 6) : Met l yX1_meter wsX1_meter ({ frames := 3, cells := 0, slots := 0, locals := 71 }) (va_Pc [.ref (ad 0), .int p1, .int p2] (mdPre dC dI ca ad sz th t k v n nw w kd ln hd so fq)) (va_Qi (fun (r : Int32) (u : Int32 × Nat × (Nat → Int32) × Nat) => (∃ wi, wi < w ∧ p1 = nI wi ∧ qx_in p2 0 3 ∧ u.1 = 0 ∧ mh_ok v (fun j => mi_in t k n nw (kd wi) (ln wi) j) n u.2.1 u.2.2.1 ∧ r = mm_f u.2.2.1 u.2.1 p2) ∨ (¬ qx_win w p1 ∧ u.1 = 1) ∨ (qx_win w p1 ∧ ¬ qx_in p2 0 3 ∧ u.1 = 2)) (fun u t9 => mdAt dC dI ca ad (va_A (md ca ad th t k v n nw w kd ln hd so fq) sz) u.1 t k v n nw w kd ln u.2.1 u.2.2.1 u.2.2.2 t9) (va_A (md ca ad th t k v n nw w kd ln hd so fq) sz)) 0 0 (va_A (md ca ad th t k v n nw w kd ln hd so fq) sz) := by
  refine Met.ofW (cc := cX1_meter) (maxL := 6) (ret := (some .int)) (by decide) rfl ?_
  intro p e s m args below meth c s₁ B hml hv
  obtain ⟨rfl, hsz, hP, hK, hD0⟩ := hv
  have hx := B.exec
  have hb := B.bytes
  have hr := B.returns
  have hts := atoms_spec (ws := wsX1_meter) B.pre
  have hown : s.vm.findClass RX1 = some m.cls := findClass_of_methodNamed B.named
  have hlocks := B.notSynchronized
  subst hsz
  have hin0 : ∀ w ∈ u_ws RX1 TX1 12, w ∈ wsX1_meter := fun w h => List.mem_cons_of_mem _ (wiX1 w h)
  have fl_25 := hts _ (List.mem_cons_of_mem _ flX1_25)
  have fl_58 := hts _ (List.mem_cons_of_mem _ flX1_58)
  have fl_64 := hts _ (List.mem_cons_of_mem _ flX1_64)
  have hD := hD0.self (sz := s.heap.size)
  generalize hAe : va_A (md ca ad th t k v n nw w kd ln hd so fq) s.heap.size = A at hD ⊢
  have hA : ∀ q : Nat, s.heap.size ≤ q → A q := fun q h => by rw [← hAe]; exact Or.inr h
  have hS : va_S A s.heap s.heap [] := va_S.rf
  have hl := lv_entry ([.ref (ad 0), .int p1, .int p2]) (n := 6) (Nat.le_of_ble_eq_true rfl)
  rw [lg_entry_eq]
  generalize (lg_sl ([.ref (ad 0), .int p1, .int p2]) ++ List.replicate (6 - (lg_sl ([.ref (ad 0), .int p1, .int p2])).length) Slot.unset).toArray = ls at hl ⊢
  have hl : lv_has ls 6 [(0, .ref (ad 0)), (1, .int p1), (2, .int p2)] := hl
  refine lv_aload_n hx hb dX1_meter_0 rfl (lv_at hl 0 rfl) ?_
  refine lv_aload_n hx hb dX1_meter_1 rfl (lv_at hl 0 rfl) ?_
  refine lv_iload_n hx hb dX1_meter_2 rfl (lv_at hl 1 rfl) ?_
  refine vp_callSi (W.runV (As := [.int p1]) (rest := [.ref (ad 0)]) ⟨hx, hb, hml, hown, hts⟩ (m_isWindow l dC dI ca ad _ th t k v n nw w kd ln hd so fq  p1 hw6) (cwV 1 hts (gg_V mlX1_67 imX1_isWindow seX1_isWindow in_WindowMetersModel kwX1_isWindow) rfl rfl rfl (by decide +kernel) ⟨Nat.le_of_ble_eq_true rfl, Nat.le_of_ble_eq_true rfl⟩) (md_preV hK hP hD [.int p1]) rfl rfl hl.1 rfl (lv_room (Nat.le_of_ble_eq_true rfl)) dX1_meter_3 ⟨Nat.le_of_ble_eq_true rfl, Nat.le_of_ble_eq_true rfl⟩) (fun r_1 hr_2 => ?_)
  refine lv_if_ne (tgt := 13) hx hb dX1_meter_6 (by decide) (fun c_3 => ?_) (fun c_3 => ?_)
  · refine lv_iconst (v := 0) hx hb dX1_meter_13 (by decide) ?_
    refine lv_aload_n hx hb dX1_meter_14 rfl (lv_at hl 0 rfl) ?_
    refine lv_iload_n hx hb dX1_meter_15 rfl (lv_at hl 1 rfl) ?_
    refine vp_callSi (W.runV (As := [.int p1]) (rest := [.int 0, .ref (ad 0)]) ⟨hx, hb, hml, hown, hts⟩ (m_isWindow l dC dI ca ad _ th t k v n nw w kd ln hd so fq  p1 hw6) (cwV 1 hts (gg_V mlX1_67 imX1_isWindow seX1_isWindow in_WindowMetersModel kwX1_isWindow) rfl rfl rfl (by decide +kernel) ⟨Nat.le_of_ble_eq_true rfl, Nat.le_of_ble_eq_true rfl⟩) (md_preV hK hP hD [.int p1]) rfl rfl hl.1 rfl (lv_room (Nat.le_of_ble_eq_true rfl)) dX1_meter_16 ⟨Nat.le_of_ble_eq_true rfl, Nat.le_of_ble_eq_true rfl⟩) (fun r_4 hr_5 => ?_)
    refine lv_if_eq (tgt := 35) hx hb dX1_meter_19 (by decide) (fun c_6 => ?_) (fun c_6 => ?_)
    · exact absurd (mk_nz hr_2 c_3) (mk_z hr_5 c_6)
    · refine lv_iload_n hx hb dX1_meter_22 rfl (lv_at hl 2 rfl) ?_
      refine lv_iconst (v := 0) hx hb dX1_meter_23 (by decide) ?_
      refine lv_iconst (v := 3) hx hb dX1_meter_24 (by decide) ?_
      refine vp_callSi (W.runS (As := [.int p2, .int 0, .int 3]) (rest := [.int 0, .ref (ad 0)]) ⟨hx, hb, hml, hown, hts⟩ (m_in l p2 0 3) (va_cwS 3 hts (gg_S mlX1_41 stX1_in in_WindowMetersModel kwX1_in) rfl rfl rfl (by decide +kernel) ⟨Nat.le_of_ble_eq_true rfl, Nat.le_of_ble_eq_true rfl⟩) preEq rfl rfl hl.1 rfl (lv_room (Nat.le_of_ble_eq_true rfl)) dX1_meter_25 ⟨Nat.le_of_ble_eq_true rfl, Nat.le_of_ble_eq_true rfl⟩) (fun r_7 hr_8 => ?_)
      refine lv_if_ne (tgt := 35) hx hb dX1_meter_28 (by decide) (fun c_9 => ?_) (fun c_9 => ?_)
      · refine lv_iconst (v := 0) hx hb dX1_meter_35 (by decide) ?_
        have hFc := va_free (wc := md ca ad th t k v n nw w kd ln hd so fq) hD hS hA [0, 1, 2, 3, 4, 5, 6] rfl
        refine va_calli (va_runV (As := [.int 0, .int 0]) (rest := []) ⟨hx, hb, hml, hown, hts⟩ (m_refuse l dC dI ca ad _ th t k v n nw w kd ln hd so fq 0 0) (cwV 2 hts (gg_V mlX1_46 imX1_refuse seX1_refuse in_WindowMetersModel kwX1_refuse) rfl rfl rfl (by decide +kernel) ⟨Nat.le_of_ble_eq_true rfl, Nat.le_of_ble_eq_true rfl⟩) (md_preV hK hP hD [.int 0, .int 0]) rfl rfl hl.1 rfl (lv_room (Nat.le_of_ble_eq_true rfl)) dX1_meter_36 ⟨Nat.le_of_ble_eq_true rfl, Nat.le_of_ble_eq_true rfl⟩) hS (fun q _ h => hFc q h) hFc (fun r_10 uz9 t9 H1 locs ht9 hvm hw_11 hB hz1 hk1 hS => ?_)
        obtain ⟨hP, -, hD1⟩ := hB
        rw [ht9] at hP
        have hD := hD1.weaken (fun k q hk h => hFc q.1 h)
        rw [show mr_th 0 0 = 0 from by decide] at hP hD
        generalize H1 = H at hP hS ⊢
        have hP : va_P (dC, dI) vwCl (md ca ad 0 t k v n nw w kd ln hd so fq) H := hP
        have hD : va_D A (md ca ad 0 t k v n nw w kd ln hd so fq) := hD
        obtain rfl : r_10 = 0 := mk_no hw_11 (by decide)
        refine lv_if_eq (tgt := 44) hx hb dX1_meter_39 (by decide) (fun c_12 => ?_) (fun c_12 => ?_)
        · obtain ⟨wi, hwi, hpw⟩ := mk_nz hr_2 c_3
          rw [hpw] at hl
          have hl : lv_has ls 6 [(0, .ref (ad 0)), (1, .int (nI wi)), (2, .int p2)] := hl
          refine lv_aload_n hx hb dX1_meter_44 rfl (lv_at hl 0 rfl) ?_
          refine lv_iload_n hx hb dX1_meter_45 rfl (lv_at hl 1 rfl) ?_
          have hFc := va_free (wc := md ca ad 0 t k v n nw w kd ln hd so fq) hD hS hA [0, 1, 2, 3, 4, 5, 6] rfl
          refine va_callv (va_runV (As := [.int (nI wi)]) (rest := []) ⟨hx, hb, hml, hown, hts⟩ (m_hold l dC dI ca ad _ 0 t k v n nw w kd ln hd so fq wi  hn hk8 (by omega)) (cwV 1 hts (gg_V mlX1_71 imX1_hold seX1_hold in_WindowMetersModel kwX1_hold) rfl rfl rfl (by decide +kernel) ⟨Nat.le_of_ble_eq_true rfl, Nat.le_of_ble_eq_true rfl⟩) (md_preV hK hP hD [.int (nI wi)]) rfl rfl hl.1 rfl (lv_room (Nat.le_of_ble_eq_true rfl)) dX1_meter_46 ⟨Nat.le_of_ble_eq_true rfl, Nat.le_of_ble_eq_true rfl⟩) hS (fun q _ h => hFc q h) hFc (fun u9 t9 H1 locs ht9 hvm hw_13 hB hz1 hk1 hS => ?_)
          obtain ⟨hP, -, hD1⟩ := hB
          rw [ht9] at hP
          have hD := hD1.weaken (fun k q hk h => hFc q.1 h)
          generalize H1 = H at hP hS ⊢
          have hP : va_P (dC, dI) vwCl (md ca ad 0 t k v n nw w kd ln u9.1 u9.2 fq) H := hP
          have hD : va_D A (md ca ad 0 t k v n nw w kd ln u9.1 u9.2 fq) := hD
          have hh9 : u9.1 ≤ 300 := Nat.le_trans hw_13.1 hn
          refine lv_iconst (v := 0) hx hb dX1_meter_49 (by decide) ?_
          refine lv_istore_n (lv' := [(3, .int 0), (0, .ref (ad 0)), (1, .int (nI wi)), (2, .int p2)]) hx hb dX1_meter_50 rfl hl (by decide) rfl (fun ls hl => ?_)
          refine lv_iconst (v := 0) hx hb dX1_meter_51 (by decide) ?_
          refine lv_istore (lv' := [(4, .int 0), (3, .int 0), (0, .ref (ad 0)), (1, .int (nI wi)), (2, .int p2)]) hx hb dX1_meter_52 hl (by decide) rfl (fun ls hl => ?_)
          refine lv_iconst (v := 0) hx hb dX1_meter_54 (by decide) ?_
          refine lv_istore (lv' := [(5, .int 0), (4, .int 0), (3, .int 0), (0, .ref (ad 0)), (1, .int (nI wi)), (2, .int p2)]) hx hb dX1_meter_55 hl (by decide) rfl (fun ls hl => ?_)
          have loop : ∀ (d i : Nat), i ≤ u9.1 → u9.1 + 1 ≤ i + d → ∀ (ls : Array Slot), lv_has ls 6 [(0, .ref (ad 0)), (1, .int (nI wi)), (2, .int p2), (3, .int (ms_f u9.2 i)), (4, .int (nI (mu_f u9.2 i))), (5, .int (nI i))] → W p l e (headSpec wsX1_meter ({ frames := 3, cells := 0, slots := 0, locals := 71 })).room s m ([.ref (ad 0), .int p1, .int p2] : List Value).toArray below meth c H locs 0 0 (MQ below (va_Qi (fun (r : Int32) (u : Int32 × Nat × (Nat → Int32) × Nat) => (∃ wi, wi < w ∧ p1 = nI wi ∧ qx_in p2 0 3 ∧ u.1 = 0 ∧ mh_ok v (fun j => mi_in t k n nw (kd wi) (ln wi) j) n u.2.1 u.2.2.1 ∧ r = mm_f u.2.2.1 u.2.1 p2) ∨ (¬ qx_win w p1 ∧ u.1 = 1) ∨ (qx_win w p1 ∧ ¬ qx_in p2 0 3 ∧ u.1 = 2)) (fun u t9 => mdAt dC dI ca ad A u.1 t k v n nw w kd ln u.2.1 u.2.2.1 u.2.2.2 t9) A) ([.ref (ad 0), .int p1, .int p2] : List Value).toArray s 0 0 A) (F0 m 57 ls []) := by
            intro d
            induction d with
            | zero =>
              intro i hi hfu
              exact absurd hfu (by omega)
            | succ d ih =>
              intro i hi hfu  ls hl
              refine lv_iload hx hb dX1_meter_57 (lv_at hl 5 rfl) ?_
              refine lv_aload_n hx hb dX1_meter_59 rfl (lv_at hl 0 rfl) ?_
              refine va_get (D := (dC, dI)) (ci := 1) (v := .int (nI u9.1)) (C := RX1) (T := TX1) (N := 12) hx hb hts hin0 hown hK hP 0 rfl rfl 9 (by decide) fl_58 (fun _ h9 => h9) rfl dX1_meter_60 ?_
              refine yb_ge (tgt := 117) (by omega) (by omega) hx hb dX1_meter_63 (by decide) (fun c_14 => ?_) (fun c_14 => ?_)
              · have hie : i = u9.1 := by omega
                refine lv_aload_n hx hb dX1_meter_117 rfl (lv_at hl 0 rfl) ?_
                have hFc := va_free (wc := md ca ad 0 t k v n nw w kd ln u9.1 u9.2 fq) hD hS hA [0, 1, 2, 3, 4, 5, 6] rfl
                refine va_calli (va_runV (As := []) (rest := []) ⟨hx, hb, hml, hown, hts⟩ (m_most l dC dI ca ad _ 0 t k v n nw w kd ln u9.1 u9.2 fq hh9) (cwV 0 hts (gg_V mlX1_75 imX1_most seX1_most in_WindowMetersModel kwX1_most) rfl rfl rfl (by decide +kernel) ⟨Nat.le_of_ble_eq_true rfl, Nat.le_of_ble_eq_true rfl⟩) (md_preV hK hP hD []) rfl rfl hl.1 rfl (lv_room (Nat.le_of_ble_eq_true rfl)) dX1_meter_118 ⟨Nat.le_of_ble_eq_true rfl, Nat.le_of_ble_eq_true rfl⟩) hS (fun q _ h => hFc q h) hFc (fun r_15 f9 t9 H1 locs ht9 hvm hw_16 hB hz1 hk1 hS => ?_)
                obtain ⟨hP, -, hD1⟩ := hB
                rw [ht9] at hP
                have hD := hD1.weaken (fun k q hk h => hFc q.1 h)
                generalize H1 = H at hP hS ⊢
                have hP : va_P (dC, dI) vwCl (md ca ad 0 t k v n nw w kd ln u9.1 u9.2 f9) H := hP
                have hD : va_D A (md ca ad 0 t k v n nw w kd ln u9.1 u9.2 f9) := hD
                obtain ⟨-, rfl⟩ := hw_16
                refine lv_pop hx hb dX1_meter_121 rfl ?_
                refine lv_iload_n hx hb dX1_meter_122 rfl (lv_at hl 2 rfl) ?_
                refine lv_if_ne (tgt := 133) hx hb dX1_meter_123 (by decide) (fun c_17 => ?_) (fun c_17 => ?_)
                · refine lv_iload_n hx hb dX1_meter_133 rfl (lv_at hl 2 rfl) ?_
                  refine lv_iconst (v := 1) hx hb dX1_meter_134 (by decide) ?_
                  refine lv_icmp_ne (tgt := 142) hx hb dX1_meter_135 (by decide) (fun c_18 => ?_) (fun c_18 => ?_)
                  · refine lv_iload_n hx hb dX1_meter_142 rfl (lv_at hl 2 rfl) ?_
                    refine lv_iconst (v := 2) hx hb dX1_meter_143 (by decide) ?_
                    refine lv_icmp_ne (tgt := 152) hx hb dX1_meter_144 (by decide) (fun c_19 => ?_) (fun c_19 => ?_)
                    · refine lv_aload_n hx hb dX1_meter_152 rfl (lv_at hl 0 rfl) ?_
                      refine va_get (D := (dC, dI)) (ci := 1) (v := .int (nI ((mo_f u9.2 u9.1).2.1))) (C := RX1) (T := TX1) (N := 12) hx hb hts hin0 hown hK hP 0 rfl rfl 11 (by decide) fl_64 (fun _ h9 => h9) rfl dX1_meter_153 ?_
                      exact W.iret (v := (nI ((mo_f u9.2 u9.1).2.1))) hx hb hr (fun t9 ht hW => ⟨⟨_, (0, u9.1, u9.2, (mo_f u9.2 u9.1).2.1), rfl, Or.inl ⟨wi, hwi, hpw, mk_nz hr_8 c_9, rfl, hw_13, by rw [mm_f, if_neg c_17, if_neg c_18, if_neg c_19]⟩, by rw [ht]; exact hP, va_K.moved hW.alike hK, hD⟩, hS.F ht⟩) hS.2.2 dX1_meter_156
                    · refine lv_iload hx hb dX1_meter_147 (lv_at hl 4 rfl) ?_
                      refine lv_goto (tgt := 156) hx hb dX1_meter_149 (by decide) ?_
                      exact W.iret (v := (nI (mu_f u9.2 i))) hx hb hr (fun t9 ht hW => ⟨⟨_, (0, u9.1, u9.2, (mo_f u9.2 u9.1).2.1), rfl, Or.inl ⟨wi, hwi, hpw, mk_nz hr_8 c_9, rfl, hw_13, by rw [mm_f, if_neg c_17, if_neg c_18, if_pos c_19, hie]⟩, by rw [ht]; exact hP, va_K.moved hW.alike hK, hD⟩, hS.F ht⟩) hS.2.2 dX1_meter_156
                  · refine lv_iload_n hx hb dX1_meter_138 rfl (lv_at hl 3 rfl) ?_
                    refine lv_goto (tgt := 156) hx hb dX1_meter_139 (by decide) ?_
                    exact W.iret (v := (ms_f u9.2 i)) hx hb hr (fun t9 ht hW => ⟨⟨_, (0, u9.1, u9.2, (mo_f u9.2 u9.1).2.1), rfl, Or.inl ⟨wi, hwi, hpw, mk_nz hr_8 c_9, rfl, hw_13, by rw [mm_f, if_neg c_17, if_pos c_18, hie]⟩, by rw [ht]; exact hP, va_K.moved hW.alike hK, hD⟩, hS.F ht⟩) hS.2.2 dX1_meter_156
                · refine lv_aload_n hx hb dX1_meter_126 rfl (lv_at hl 0 rfl) ?_
                  refine va_get (D := (dC, dI)) (ci := 1) (v := .int (nI u9.1)) (C := RX1) (T := TX1) (N := 12) hx hb hts hin0 hown hK hP 0 rfl rfl 9 (by decide) fl_58 (fun _ h9 => h9) rfl dX1_meter_127 ?_
                  refine lv_goto (tgt := 156) hx hb dX1_meter_130 (by decide) ?_
                  exact W.iret (v := (nI u9.1)) hx hb hr (fun t9 ht hW => ⟨⟨_, (0, u9.1, u9.2, (mo_f u9.2 u9.1).2.1), rfl, Or.inl ⟨wi, hwi, hpw, mk_nz hr_8 c_9, rfl, hw_13, by rw [mm_f, if_pos c_17]⟩, by rw [ht]; exact hP, va_K.moved hW.alike hK, hD⟩, hS.F ht⟩) hS.2.2 dX1_meter_156
              · refine lv_iload_n hx hb dX1_meter_66 rfl (lv_at hl 3 rfl) ?_
                refine lv_aload_n hx hb dX1_meter_67 rfl (lv_at hl 0 rfl) ?_
                refine va_get (D := (dC, dI)) (ci := 1) (v := .ref (ad 6)) (C := RX1) (T := TX1) (N := 12) hx hb hts hin0 hown hK hP 0 rfl rfl 10 (by decide) fl_25 (fun _ h9 => h9) rfl dX1_meter_68 ?_
                refine lv_iload hx hb dX1_meter_71 (lv_at hl 5 rfl) ?_
                refine ya_iald hx hb hK hP 6 5 rfl rfl (j := i) (by omega) (by decide) dX1_meter_73 ?_
                refine lv_iadd hx hb dX1_meter_74 ?_
                refine lv_istore_n (lv' := [(3, .int ((ms_f u9.2 i) + (u9.2 i))), (0, .ref (ad 0)), (1, .int (nI wi)), (2, .int p2), (4, .int (nI (mu_f u9.2 i))), (5, .int (nI i))]) hx hb dX1_meter_75 rfl hl (by decide) rfl (fun ls hl => ?_)
                refine lv_iload hx hb dX1_meter_76 (lv_at hl 5 rfl) ?_
                refine lv_if_eq (tgt := 100) hx hb dX1_meter_78 (by decide) (fun c_20 => ?_) (fun c_20 => ?_)
                · have hi0 : i = 0 := Decidable.byContradiction (fun q => yn_n0 (Nat.pos_of_ne_zero q) (by omega) c_20)
                  refine lv_iload hx hb dX1_meter_100 (lv_at hl 4 rfl) ?_
                  refine lv_iconst (v := 1) hx hb dX1_meter_102 (by decide) ?_
                  refine lv_iadd hx hb dX1_meter_103 ?_
                  rw [nI_1 (mu_f u9.2 i)]
                  refine lv_goto (tgt := 109) hx hb dX1_meter_104 (by decide) ?_
                  refine lv_istore (lv' := [(4, .int (nI (mu_f u9.2 i + 1))), (3, .int ((ms_f u9.2 i) + (u9.2 i))), (0, .ref (ad 0)), (1, .int (nI wi)), (2, .int p2), (5, .int (nI i))]) hx hb dX1_meter_109 hl (by decide) rfl (fun ls hl => ?_)
                  refine lv_iinc (v := (nI (i + 1))) (lv' := [(5, .int (nI (i + 1))), (4, .int (nI (mu_f u9.2 i + 1))), (3, .int ((ms_f u9.2 i) + (u9.2 i))), (0, .ref (ad 0)), (1, .int (nI wi)), (2, .int p2)]) hx hb dX1_meter_111 hl (k := 5) rfl (yn_inc _) (by decide) rfl (fun ls hl => ?_)
                  refine lv_goto (tgt := 57) hx hb dX1_meter_114 (by decide) ?_
                  exact ih (i + 1) (by omega) (by omega) ls (by rw [ms_f, mu_f, if_pos (Or.inl hi0)]; exact (lv_sub hl [3, 4, 5, 2, 1, 0] rfl))
                · obtain ⟨i1, rfl⟩ : ∃ i1, i = i1 + 1 := ⟨i - 1, by
                    rcases Nat.eq_zero_or_pos i with q | q
                    · subst q; exact absurd rfl c_20
                    · omega⟩
                  have hl : lv_has ls 6 [(3, .int ((ms_f u9.2 (i1 + 1)) + (u9.2 (i1 + 1)))), (0, .ref (ad 0)), (1, .int (nI wi)), (2, .int p2), (4, .int (nI (mu_f u9.2 (i1 + 1)))), (5, .int (nI (i1 + 1)))] := hl
                  refine lv_aload_n hx hb dX1_meter_81 rfl (lv_at hl 1 rfl) ?_
                  refine va_get (D := (dC, dI)) (ci := 1) (v := .ref (ad 6)) (C := RX1) (T := TX1) (N := 12) hx hb hts hin0 hown hK hP 0 rfl rfl 10 (by decide) fl_25 (fun _ h9 => h9) rfl dX1_meter_82 ?_
                  refine lv_iload hx hb dX1_meter_85 (lv_at hl 5 rfl) ?_
                  refine ya_iald hx hb hK hP 6 5 rfl rfl (j := (i1 + 1)) (by omega) (by decide) dX1_meter_87 ?_
                  refine lv_aload_n hx hb dX1_meter_88 rfl (lv_at hl 1 rfl) ?_
                  refine va_get (D := (dC, dI)) (ci := 1) (v := .ref (ad 6)) (C := RX1) (T := TX1) (N := 12) hx hb hts hin0 hown hK hP 0 rfl rfl 10 (by decide) fl_25 (fun _ h9 => h9) rfl dX1_meter_89 ?_
                  refine lv_iload hx hb dX1_meter_92 (lv_at hl 5 rfl) ?_
                  refine lv_iconst (v := 1) hx hb dX1_meter_94 (by decide) ?_
                  refine lv_isub hx hb dX1_meter_95 ?_
                  rw [nI_pred i1]
                  refine ya_iald hx hb hK hP 6 5 rfl rfl (j := i1) (by omega) (by decide) dX1_meter_96 ?_
                  refine lv_icmp_eq (tgt := 107) hx hb dX1_meter_97 (by decide) (fun c_21 => ?_) (fun c_21 => ?_)
                  · refine lv_iload hx hb dX1_meter_107 (lv_at hl 4 rfl) ?_
                    refine lv_istore (lv' := [(4, .int (nI (mu_f u9.2 (i1 + 1)))), (3, .int ((ms_f u9.2 (i1 + 1)) + (u9.2 (i1 + 1)))), (0, .ref (ad 0)), (1, .int (nI wi)), (2, .int p2), (5, .int (nI (i1 + 1)))]) hx hb dX1_meter_109 hl (by decide) rfl (fun ls hl => ?_)
                    refine lv_iinc (v := (nI ((i1 + 1) + 1))) (lv' := [(5, .int (nI ((i1 + 1) + 1))), (4, .int (nI (mu_f u9.2 (i1 + 1)))), (3, .int ((ms_f u9.2 (i1 + 1)) + (u9.2 (i1 + 1)))), (0, .ref (ad 0)), (1, .int (nI wi)), (2, .int p2)]) hx hb dX1_meter_111 hl (k := 5) rfl (yn_inc _) (by decide) rfl (fun ls hl => ?_)
                    refine lv_goto (tgt := 57) hx hb dX1_meter_114 (by decide) ?_
                    exact ih (i1 + 1 + 1) (by omega) (by omega) ls (by rw [ms_f, mu_f, if_neg (show ¬ (i1 + 1 = 0 ∨ ¬ u9.2 (i1 + 1) = u9.2 (i1 + 1 - 1)) from fun q => q.elim (fun q => absurd q (Nat.succ_ne_zero i1)) (fun q => q c_21))]; exact (lv_sub hl [3, 4, 5, 2, 1, 0] rfl))
                  · refine lv_iload hx hb dX1_meter_100 (lv_at hl 4 rfl) ?_
                    refine lv_iconst (v := 1) hx hb dX1_meter_102 (by decide) ?_
                    refine lv_iadd hx hb dX1_meter_103 ?_
                    rw [nI_1 (mu_f u9.2 (i1 + 1))]
                    refine lv_goto (tgt := 109) hx hb dX1_meter_104 (by decide) ?_
                    refine lv_istore (lv' := [(4, .int (nI (mu_f u9.2 (i1 + 1) + 1))), (3, .int ((ms_f u9.2 (i1 + 1)) + (u9.2 (i1 + 1)))), (0, .ref (ad 0)), (1, .int (nI wi)), (2, .int p2), (5, .int (nI (i1 + 1)))]) hx hb dX1_meter_109 hl (by decide) rfl (fun ls hl => ?_)
                    refine lv_iinc (v := (nI ((i1 + 1) + 1))) (lv' := [(5, .int (nI ((i1 + 1) + 1))), (4, .int (nI (mu_f u9.2 (i1 + 1) + 1))), (3, .int ((ms_f u9.2 (i1 + 1)) + (u9.2 (i1 + 1)))), (0, .ref (ad 0)), (1, .int (nI wi)), (2, .int p2)]) hx hb dX1_meter_111 hl (k := 5) rfl (yn_inc _) (by decide) rfl (fun ls hl => ?_)
                    refine lv_goto (tgt := 57) hx hb dX1_meter_114 (by decide) ?_
                    exact ih (i1 + 1 + 1) (by omega) (by omega) ls (by rw [ms_f, mu_f, if_pos (show (i1 + 1 = 0 ∨ ¬ u9.2 (i1 + 1) = u9.2 (i1 + 1 - 1)) from Or.inr c_21)]; exact (lv_sub hl [3, 4, 5, 2, 1, 0] rfl))
          exact loop (u9.1 + 1) 0 (Nat.zero_le _) (by omega) ls (lv_sub hl [3, 4, 5, 2, 1, 0] rfl)
        · first | exact absurd rfl c_12 | exact absurd c_12 (by decide)
      · refine lv_iconst (v := 1) hx hb dX1_meter_31 (by decide) ?_
        refine lv_goto (tgt := 36) hx hb dX1_meter_32 (by decide) ?_
        have hFc := va_free (wc := md ca ad th t k v n nw w kd ln hd so fq) hD hS hA [0, 1, 2, 3, 4, 5, 6] rfl
        refine va_calli (va_runV (As := [.int 0, .int 1]) (rest := []) ⟨hx, hb, hml, hown, hts⟩ (m_refuse l dC dI ca ad _ th t k v n nw w kd ln hd so fq 0 1) (cwV 2 hts (gg_V mlX1_46 imX1_refuse seX1_refuse in_WindowMetersModel kwX1_refuse) rfl rfl rfl (by decide +kernel) ⟨Nat.le_of_ble_eq_true rfl, Nat.le_of_ble_eq_true rfl⟩) (md_preV hK hP hD [.int 0, .int 1]) rfl rfl hl.1 rfl (lv_room (Nat.le_of_ble_eq_true rfl)) dX1_meter_36 ⟨Nat.le_of_ble_eq_true rfl, Nat.le_of_ble_eq_true rfl⟩) hS (fun q _ h => hFc q h) hFc (fun r_22 uz9 t9 H1 locs ht9 hvm hw_23 hB hz1 hk1 hS => ?_)
        obtain ⟨hP, -, hD1⟩ := hB
        rw [ht9] at hP
        have hD := hD1.weaken (fun k q hk h => hFc q.1 h)
        rw [show mr_th 0 1 = 2 from by decide] at hP hD
        generalize H1 = H at hP hS ⊢
        have hP : va_P (dC, dI) vwCl (md ca ad 2 t k v n nw w kd ln hd so fq) H := hP
        have hD : va_D A (md ca ad 2 t k v n nw w kd ln hd so fq) := hD
        obtain rfl : r_22 = 1 := mk_yes hw_23 (by decide)
        refine lv_if_eq (tgt := 44) hx hb dX1_meter_39 (by decide) (fun c_24 => ?_) (fun c_24 => ?_)
        · first | exact absurd rfl c_24 | exact absurd c_24 (by decide)
        · refine lv_iconst (v := 0) hx hb dX1_meter_42 (by decide) ?_
          exact W.iret (v := 0) hx hb hr (fun t9 ht hW => ⟨⟨_, (2, hd, so, fq), rfl, Or.inr (Or.inr ⟨mk_nz hr_2 c_3, mk_z hr_8 c_9, rfl⟩), by rw [ht]; exact hP, va_K.moved hW.alike hK, hD⟩, hS.F ht⟩) hS.2.2 dX1_meter_43
  · refine lv_iconst (v := 1) hx hb dX1_meter_9 (by decide) ?_
    refine lv_goto (tgt := 14) hx hb dX1_meter_10 (by decide) ?_
    refine lv_aload_n hx hb dX1_meter_14 rfl (lv_at hl 0 rfl) ?_
    refine lv_iload_n hx hb dX1_meter_15 rfl (lv_at hl 1 rfl) ?_
    refine vp_callSi (W.runV (As := [.int p1]) (rest := [.int 1, .ref (ad 0)]) ⟨hx, hb, hml, hown, hts⟩ (m_isWindow l dC dI ca ad _ th t k v n nw w kd ln hd so fq  p1 hw6) (cwV 1 hts (gg_V mlX1_67 imX1_isWindow seX1_isWindow in_WindowMetersModel kwX1_isWindow) rfl rfl rfl (by decide +kernel) ⟨Nat.le_of_ble_eq_true rfl, Nat.le_of_ble_eq_true rfl⟩) (md_preV hK hP hD [.int p1]) rfl rfl hl.1 rfl (lv_room (Nat.le_of_ble_eq_true rfl)) dX1_meter_16 ⟨Nat.le_of_ble_eq_true rfl, Nat.le_of_ble_eq_true rfl⟩) (fun r_25 hr_26 => ?_)
    refine lv_if_eq (tgt := 35) hx hb dX1_meter_19 (by decide) (fun c_27 => ?_) (fun c_27 => ?_)
    · refine lv_iconst (v := 0) hx hb dX1_meter_35 (by decide) ?_
      have hFc := va_free (wc := md ca ad th t k v n nw w kd ln hd so fq) hD hS hA [0, 1, 2, 3, 4, 5, 6] rfl
      refine va_calli (va_runV (As := [.int 1, .int 0]) (rest := []) ⟨hx, hb, hml, hown, hts⟩ (m_refuse l dC dI ca ad _ th t k v n nw w kd ln hd so fq 1 0) (cwV 2 hts (gg_V mlX1_46 imX1_refuse seX1_refuse in_WindowMetersModel kwX1_refuse) rfl rfl rfl (by decide +kernel) ⟨Nat.le_of_ble_eq_true rfl, Nat.le_of_ble_eq_true rfl⟩) (md_preV hK hP hD [.int 1, .int 0]) rfl rfl hl.1 rfl (lv_room (Nat.le_of_ble_eq_true rfl)) dX1_meter_36 ⟨Nat.le_of_ble_eq_true rfl, Nat.le_of_ble_eq_true rfl⟩) hS (fun q _ h => hFc q h) hFc (fun r_28 uz9 t9 H1 locs ht9 hvm hw_29 hB hz1 hk1 hS => ?_)
      obtain ⟨hP, -, hD1⟩ := hB
      rw [ht9] at hP
      have hD := hD1.weaken (fun k q hk h => hFc q.1 h)
      rw [show mr_th 1 0 = 1 from by decide] at hP hD
      generalize H1 = H at hP hS ⊢
      have hP : va_P (dC, dI) vwCl (md ca ad 1 t k v n nw w kd ln hd so fq) H := hP
      have hD : va_D A (md ca ad 1 t k v n nw w kd ln hd so fq) := hD
      obtain rfl : r_28 = 1 := mk_yes hw_29 (by decide)
      refine lv_if_eq (tgt := 44) hx hb dX1_meter_39 (by decide) (fun c_30 => ?_) (fun c_30 => ?_)
      · first | exact absurd rfl c_30 | exact absurd c_30 (by decide)
      · refine lv_iconst (v := 0) hx hb dX1_meter_42 (by decide) ?_
        exact W.iret (v := 0) hx hb hr (fun t9 ht hW => ⟨⟨_, (1, hd, so, fq), rfl, Or.inr (Or.inl ⟨mk_z hr_2 c_3, rfl⟩), by rw [ht]; exact hP, va_K.moved hW.alike hK, hD⟩, hS.F ht⟩) hS.2.2 dX1_meter_43
    · exact absurd (mk_nz hr_26 c_27) (mk_z hr_2 c_3)

set_option maxRecDepth 100000 in
set_option maxHeartbeats 4000000 in
/-- kth(w, k) -/
theorem m_kth (l : Launch) (dC : Nat → ClassId) (dI : Nat → Nat → Nat) (ca : Nat → ClassId) (ad : Nat → Nat) (sz : Nat) (th : Int32) (t : Nat → Int32) (k : Nat → Nat) (v : Nat → Int32) (n : Nat) (nw : Int32) (w : Nat) (kd : Nat → Int32) (ln : Nat → Int32) (hd : Nat) (so : Nat → Int32) (fq : Nat) (p1 p2 : Int32) (hn : n ≤ 300) (hk8 : ∀ j, j < n → k j < 8) (hw6 : w ≤ 6) : Met l yX1_kth wsX1_kth ({ frames := 3, cells := 0, slots := 0, locals := 71 }) (va_Pc [.ref (ad 0), .int p1, .int p2] (mdPre dC dI ca ad sz th t k v n nw w kd ln hd so fq)) (va_Qi (fun (r : Int32) (u : Int32 × Nat × (Nat → Int32) × Nat) => (∃ wi j9, wi < w ∧ p1 = nI wi ∧ u.1 = 0 ∧ mh_ok v (fun j => mi_in t k n nw (kd wi) (ln wi) j) n u.2.1 u.2.2.1 ∧ j9 < u.2.1 ∧ p2 = nI j9 ∧ r = u.2.2.1 j9) ∨ (¬ qx_win w p1 ∧ u.1 = 1) ∨ (∃ wi, wi < w ∧ p1 = nI wi ∧ u.1 = 2 ∧ mh_ok v (fun j => mi_in t k n nw (kd wi) (ln wi) j) n u.2.1 u.2.2.1 ∧ ¬ qx_win u.2.1 p2)) (fun u t9 => mdAt dC dI ca ad (va_A (md ca ad th t k v n nw w kd ln hd so fq) sz) u.1 t k v n nw w kd ln u.2.1 u.2.2.1 u.2.2.2 t9) (va_A (md ca ad th t k v n nw w kd ln hd so fq) sz)) 0 0 (va_A (md ca ad th t k v n nw w kd ln hd so fq) sz) := by
  refine Met.ofW (cc := cX1_kth) (maxL := 3) (ret := (some .int)) (by decide) rfl ?_
  intro p e s m args below meth c s₁ B hml hv
  obtain ⟨rfl, hsz, hP, hK, hD0⟩ := hv
  have hx := B.exec
  have hb := B.bytes
  have hr := B.returns
  have hts := atoms_spec (ws := wsX1_kth) B.pre
  have hown : s.vm.findClass RX1 = some m.cls := findClass_of_methodNamed B.named
  have hlocks := B.notSynchronized
  subst hsz
  have hin0 : ∀ w ∈ u_ws RX1 TX1 12, w ∈ wsX1_kth := fun w h => List.mem_cons_of_mem _ (wiX1 w h)
  have fl_25 := hts _ (List.mem_cons_of_mem _ flX1_25)
  have fl_58 := hts _ (List.mem_cons_of_mem _ flX1_58)
  have hD := hD0.self (sz := s.heap.size)
  generalize hAe : va_A (md ca ad th t k v n nw w kd ln hd so fq) s.heap.size = A at hD ⊢
  have hA : ∀ q : Nat, s.heap.size ≤ q → A q := fun q h => by rw [← hAe]; exact Or.inr h
  have hS : va_S A s.heap s.heap [] := va_S.rf
  have hl := lv_entry ([.ref (ad 0), .int p1, .int p2]) (n := 3) (Nat.le_of_ble_eq_true rfl)
  rw [lg_entry_eq]
  generalize (lg_sl ([.ref (ad 0), .int p1, .int p2]) ++ List.replicate (3 - (lg_sl ([.ref (ad 0), .int p1, .int p2])).length) Slot.unset).toArray = ls at hl ⊢
  have hl : lv_has ls 3 [(0, .ref (ad 0)), (1, .int p1), (2, .int p2)] := hl
  refine lv_aload_n hx hb dX1_kth_0 rfl (lv_at hl 0 rfl) ?_
  refine lv_iload_n hx hb dX1_kth_1 rfl (lv_at hl 1 rfl) ?_
  refine vp_callSi (W.runV (As := [.int p1]) (rest := []) ⟨hx, hb, hml, hown, hts⟩ (m_isWindow l dC dI ca ad _ th t k v n nw w kd ln hd so fq  p1 hw6) (cwV 1 hts (gg_V mlX1_67 imX1_isWindow seX1_isWindow in_WindowMetersModel kwX1_isWindow) rfl rfl rfl (by decide +kernel) ⟨Nat.le_of_ble_eq_true rfl, Nat.le_of_ble_eq_true rfl⟩) (md_preV hK hP hD [.int p1]) rfl rfl hl.1 rfl (lv_room (Nat.le_of_ble_eq_true rfl)) dX1_kth_2 ⟨Nat.le_of_ble_eq_true rfl, Nat.le_of_ble_eq_true rfl⟩) (fun r_1 hr_2 => ?_)
  refine lv_if_eq (tgt := 13) hx hb dX1_kth_5 (by decide) (fun c_3 => ?_) (fun c_3 => ?_)
  · refine lv_aload_n hx hb dX1_kth_13 rfl (lv_at hl 0 rfl) ?_
    refine lv_aload_n hx hb dX1_kth_14 rfl (lv_at hl 0 rfl) ?_
    refine lv_iload_n hx hb dX1_kth_15 rfl (lv_at hl 1 rfl) ?_
    refine vp_callSi (W.runV (As := [.int p1]) (rest := [.ref (ad 0)]) ⟨hx, hb, hml, hown, hts⟩ (m_isWindow l dC dI ca ad _ th t k v n nw w kd ln hd so fq  p1 hw6) (cwV 1 hts (gg_V mlX1_67 imX1_isWindow seX1_isWindow in_WindowMetersModel kwX1_isWindow) rfl rfl rfl (by decide +kernel) ⟨Nat.le_of_ble_eq_true rfl, Nat.le_of_ble_eq_true rfl⟩) (md_preV hK hP hD [.int p1]) rfl rfl hl.1 rfl (lv_room (Nat.le_of_ble_eq_true rfl)) dX1_kth_16 ⟨Nat.le_of_ble_eq_true rfl, Nat.le_of_ble_eq_true rfl⟩) (fun r_4 hr_5 => ?_)
    refine lv_if_ne (tgt := 26) hx hb dX1_kth_19 (by decide) (fun c_6 => ?_) (fun c_6 => ?_)
    · exact absurd (mk_nz hr_5 c_6) (mk_z hr_2 c_3)
    · refine lv_iconst (v := 1) hx hb dX1_kth_22 (by decide) ?_
      refine lv_goto (tgt := 27) hx hb dX1_kth_23 (by decide) ?_
      refine lv_aload_n hx hb dX1_kth_27 rfl (lv_at hl 0 rfl) ?_
      refine lv_iload_n hx hb dX1_kth_28 rfl (lv_at hl 1 rfl) ?_
      refine vp_callSi (W.runV (As := [.int p1]) (rest := [.int 1, .ref (ad 0)]) ⟨hx, hb, hml, hown, hts⟩ (m_isWindow l dC dI ca ad _ th t k v n nw w kd ln hd so fq  p1 hw6) (cwV 1 hts (gg_V mlX1_67 imX1_isWindow seX1_isWindow in_WindowMetersModel kwX1_isWindow) rfl rfl rfl (by decide +kernel) ⟨Nat.le_of_ble_eq_true rfl, Nat.le_of_ble_eq_true rfl⟩) (md_preV hK hP hD [.int p1]) rfl rfl hl.1 rfl (lv_room (Nat.le_of_ble_eq_true rfl)) dX1_kth_29 ⟨Nat.le_of_ble_eq_true rfl, Nat.le_of_ble_eq_true rfl⟩) (fun r_7 hr_8 => ?_)
      refine lv_if_eq (tgt := 53) hx hb dX1_kth_32 (by decide) (fun c_9 => ?_) (fun c_9 => ?_)
      · refine lv_iconst (v := 0) hx hb dX1_kth_53 (by decide) ?_
        have hFc := va_free (wc := md ca ad th t k v n nw w kd ln hd so fq) hD hS hA [0, 1, 2, 3, 4, 5, 6] rfl
        refine va_calli (va_runV (As := [.int 1, .int 0]) (rest := []) ⟨hx, hb, hml, hown, hts⟩ (m_refuse l dC dI ca ad _ th t k v n nw w kd ln hd so fq 1 0) (cwV 2 hts (gg_V mlX1_46 imX1_refuse seX1_refuse in_WindowMetersModel kwX1_refuse) rfl rfl rfl (by decide +kernel) ⟨Nat.le_of_ble_eq_true rfl, Nat.le_of_ble_eq_true rfl⟩) (md_preV hK hP hD [.int 1, .int 0]) rfl rfl hl.1 rfl (lv_room (Nat.le_of_ble_eq_true rfl)) dX1_kth_54 ⟨Nat.le_of_ble_eq_true rfl, Nat.le_of_ble_eq_true rfl⟩) hS (fun q _ h => hFc q h) hFc (fun r_10 uz9 t9 H1 locs ht9 hvm hw_11 hB hz1 hk1 hS => ?_)
        obtain ⟨hP, -, hD1⟩ := hB
        rw [ht9] at hP
        have hD := hD1.weaken (fun k q hk h => hFc q.1 h)
        rw [show mr_th 1 0 = 1 from by decide] at hP hD
        generalize H1 = H at hP hS ⊢
        have hP : va_P (dC, dI) vwCl (md ca ad 1 t k v n nw w kd ln hd so fq) H := hP
        have hD : va_D A (md ca ad 1 t k v n nw w kd ln hd so fq) := hD
        obtain rfl : r_10 = 1 := mk_yes hw_11 (by decide)
        refine lv_if_eq (tgt := 62) hx hb dX1_kth_57 (by decide) (fun c_12 => ?_) (fun c_12 => ?_)
        · first | exact absurd rfl c_12 | exact absurd c_12 (by decide)
        · refine lv_iconst (v := 0) hx hb dX1_kth_60 (by decide) ?_
          exact W.iret (v := 0) hx hb hr (fun t9 ht hW => ⟨⟨_, (1, hd, so, fq), rfl, Or.inr (Or.inl ⟨mk_z hr_2 c_3, rfl⟩), by rw [ht]; exact hP, va_K.moved hW.alike hK, hD⟩, hS.F ht⟩) hS.2.2 dX1_kth_61
      · exact absurd (mk_nz hr_8 c_9) (mk_z hr_2 c_3)
  · obtain ⟨wi, hwi, hpw⟩ := mk_nz hr_2 c_3
    rw [hpw] at hl
    have hl : lv_has ls 3 [(0, .ref (ad 0)), (1, .int (nI wi)), (2, .int p2)] := hl
    rw [hpw] at hr_2
    refine lv_aload_n hx hb dX1_kth_8 rfl (lv_at hl 0 rfl) ?_
    refine lv_iload_n hx hb dX1_kth_9 rfl (lv_at hl 1 rfl) ?_
    have hFc := va_free (wc := md ca ad th t k v n nw w kd ln hd so fq) hD hS hA [0, 1, 2, 3, 4, 5, 6] rfl
    refine va_callv (va_runV (As := [.int (nI wi)]) (rest := []) ⟨hx, hb, hml, hown, hts⟩ (m_hold l dC dI ca ad _ th t k v n nw w kd ln hd so fq wi  hn hk8 (by omega)) (cwV 1 hts (gg_V mlX1_71 imX1_hold seX1_hold in_WindowMetersModel kwX1_hold) rfl rfl rfl (by decide +kernel) ⟨Nat.le_of_ble_eq_true rfl, Nat.le_of_ble_eq_true rfl⟩) (md_preV hK hP hD [.int (nI wi)]) rfl rfl hl.1 rfl (lv_room (Nat.le_of_ble_eq_true rfl)) dX1_kth_10 ⟨Nat.le_of_ble_eq_true rfl, Nat.le_of_ble_eq_true rfl⟩) hS (fun q _ h => hFc q h) hFc (fun u9 t9 H1 locs ht9 hvm hw_13 hB hz1 hk1 hS => ?_)
    obtain ⟨hP, -, hD1⟩ := hB
    rw [ht9] at hP
    have hD := hD1.weaken (fun k q hk h => hFc q.1 h)
    generalize H1 = H at hP hS ⊢
    have hP : va_P (dC, dI) vwCl (md ca ad th t k v n nw w kd ln u9.1 u9.2 fq) H := hP
    have hD : va_D A (md ca ad th t k v n nw w kd ln u9.1 u9.2 fq) := hD
    have hh9 : u9.1 ≤ 300 := Nat.le_trans hw_13.1 hn
    refine lv_aload_n hx hb dX1_kth_13 rfl (lv_at hl 0 rfl) ?_
    refine lv_aload_n hx hb dX1_kth_14 rfl (lv_at hl 0 rfl) ?_
    refine lv_iload_n hx hb dX1_kth_15 rfl (lv_at hl 1 rfl) ?_
    refine vp_callSi (W.runV (As := [.int (nI wi)]) (rest := [.ref (ad 0)]) ⟨hx, hb, hml, hown, hts⟩ (m_isWindow l dC dI ca ad _ th t k v n nw w kd ln u9.1 u9.2 fq  (nI wi) hw6) (cwV 1 hts (gg_V mlX1_67 imX1_isWindow seX1_isWindow in_WindowMetersModel kwX1_isWindow) rfl rfl rfl (by decide +kernel) ⟨Nat.le_of_ble_eq_true rfl, Nat.le_of_ble_eq_true rfl⟩) (md_preV hK hP hD [.int (nI wi)]) rfl rfl hl.1 rfl (lv_room (Nat.le_of_ble_eq_true rfl)) dX1_kth_16 ⟨Nat.le_of_ble_eq_true rfl, Nat.le_of_ble_eq_true rfl⟩) (fun r_14 hr_15 => ?_)
    refine lv_if_ne (tgt := 26) hx hb dX1_kth_19 (by decide) (fun c_16 => ?_) (fun c_16 => ?_)
    · refine lv_iconst (v := 0) hx hb dX1_kth_26 (by decide) ?_
      refine lv_aload_n hx hb dX1_kth_27 rfl (lv_at hl 0 rfl) ?_
      refine lv_iload_n hx hb dX1_kth_28 rfl (lv_at hl 1 rfl) ?_
      refine vp_callSi (W.runV (As := [.int (nI wi)]) (rest := [.int 0, .ref (ad 0)]) ⟨hx, hb, hml, hown, hts⟩ (m_isWindow l dC dI ca ad _ th t k v n nw w kd ln u9.1 u9.2 fq  (nI wi) hw6) (cwV 1 hts (gg_V mlX1_67 imX1_isWindow seX1_isWindow in_WindowMetersModel kwX1_isWindow) rfl rfl rfl (by decide +kernel) ⟨Nat.le_of_ble_eq_true rfl, Nat.le_of_ble_eq_true rfl⟩) (md_preV hK hP hD [.int (nI wi)]) rfl rfl hl.1 rfl (lv_room (Nat.le_of_ble_eq_true rfl)) dX1_kth_29 ⟨Nat.le_of_ble_eq_true rfl, Nat.le_of_ble_eq_true rfl⟩) (fun r_17 hr_18 => ?_)
      refine lv_if_eq (tgt := 53) hx hb dX1_kth_32 (by decide) (fun c_19 => ?_) (fun c_19 => ?_)
      · exact absurd (mk_nz hr_2 c_3) (mk_z hr_18 c_19)
      · refine lv_iload_n hx hb dX1_kth_35 rfl (lv_at hl 2 rfl) ?_
        refine lv_iconst (v := 0) hx hb dX1_kth_36 (by decide) ?_
        refine lv_aload_n hx hb dX1_kth_37 rfl (lv_at hl 0 rfl) ?_
        refine va_get (D := (dC, dI)) (ci := 1) (v := .int (nI u9.1)) (C := RX1) (T := TX1) (N := 12) hx hb hts hin0 hown hK hP 0 rfl rfl 9 (by decide) fl_58 (fun _ h9 => h9) rfl dX1_kth_38 ?_
        refine lv_iconst (v := 1) hx hb dX1_kth_41 (by decide) ?_
        refine lv_isub hx hb dX1_kth_42 ?_
        refine vp_callSi (W.runS (As := [.int p2, .int 0, .int ((nI u9.1) - 1)]) (rest := [.int 0, .ref (ad 0)]) ⟨hx, hb, hml, hown, hts⟩ (m_in l p2 0 ((nI u9.1) - 1)) (va_cwS 3 hts (gg_S mlX1_41 stX1_in in_WindowMetersModel kwX1_in) rfl rfl rfl (by decide +kernel) ⟨Nat.le_of_ble_eq_true rfl, Nat.le_of_ble_eq_true rfl⟩) preEq rfl rfl hl.1 rfl (lv_room (Nat.le_of_ble_eq_true rfl)) dX1_kth_43 ⟨Nat.le_of_ble_eq_true rfl, Nat.le_of_ble_eq_true rfl⟩) (fun r_20 hr_21 => ?_)
        refine lv_if_ne (tgt := 53) hx hb dX1_kth_46 (by decide) (fun c_22 => ?_) (fun c_22 => ?_)
        · refine lv_iconst (v := 0) hx hb dX1_kth_53 (by decide) ?_
          have hFc := va_free (wc := md ca ad th t k v n nw w kd ln u9.1 u9.2 fq) hD hS hA [0, 1, 2, 3, 4, 5, 6] rfl
          refine va_calli (va_runV (As := [.int 0, .int 0]) (rest := []) ⟨hx, hb, hml, hown, hts⟩ (m_refuse l dC dI ca ad _ th t k v n nw w kd ln u9.1 u9.2 fq 0 0) (cwV 2 hts (gg_V mlX1_46 imX1_refuse seX1_refuse in_WindowMetersModel kwX1_refuse) rfl rfl rfl (by decide +kernel) ⟨Nat.le_of_ble_eq_true rfl, Nat.le_of_ble_eq_true rfl⟩) (md_preV hK hP hD [.int 0, .int 0]) rfl rfl hl.1 rfl (lv_room (Nat.le_of_ble_eq_true rfl)) dX1_kth_54 ⟨Nat.le_of_ble_eq_true rfl, Nat.le_of_ble_eq_true rfl⟩) hS (fun q _ h => hFc q h) hFc (fun r_23 uz9 t9 H1 locs ht9 hvm hw_24 hB hz1 hk1 hS => ?_)
          obtain ⟨hP, -, hD1⟩ := hB
          rw [ht9] at hP
          have hD := hD1.weaken (fun k q hk h => hFc q.1 h)
          rw [show mr_th 0 0 = 0 from by decide] at hP hD
          generalize H1 = H at hP hS ⊢
          have hP : va_P (dC, dI) vwCl (md ca ad 0 t k v n nw w kd ln u9.1 u9.2 fq) H := hP
          have hD : va_D A (md ca ad 0 t k v n nw w kd ln u9.1 u9.2 fq) := hD
          obtain rfl : r_23 = 0 := mk_no hw_24 (by decide)
          refine lv_if_eq (tgt := 62) hx hb dX1_kth_57 (by decide) (fun c_25 => ?_) (fun c_25 => ?_)
          · obtain ⟨j9, hj9, hpj⟩ := (qx_in_pred (by omega)).mp (mk_nz hr_21 c_22)
            rw [hpj] at hl
            have hl : lv_has ls 3 [(0, .ref (ad 0)), (1, .int (nI wi)), (2, .int (nI j9))] := hl
            refine lv_aload_n hx hb dX1_kth_62 rfl (lv_at hl 0 rfl) ?_
            refine va_get (D := (dC, dI)) (ci := 1) (v := .ref (ad 6)) (C := RX1) (T := TX1) (N := 12) hx hb hts hin0 hown hK hP 0 rfl rfl 10 (by decide) fl_25 (fun _ h9 => h9) rfl dX1_kth_63 ?_
            refine lv_iload_n hx hb dX1_kth_66 rfl (lv_at hl 2 rfl) ?_
            refine ya_iald hx hb hK hP 6 5 rfl rfl (j := j9) (by omega) (by decide) dX1_kth_67 ?_
            exact W.iret (v := (u9.2 j9)) hx hb hr (fun t9 ht hW => ⟨⟨_, (0, u9.1, u9.2, fq), rfl, Or.inl ⟨wi, j9, hwi, hpw, rfl, hw_13, hj9, hpj, rfl⟩, by rw [ht]; exact hP, va_K.moved hW.alike hK, hD⟩, hS.F ht⟩) hS.2.2 dX1_kth_68
          · first | exact absurd rfl c_25 | exact absurd c_25 (by decide)
        · refine lv_iconst (v := 1) hx hb dX1_kth_49 (by decide) ?_
          refine lv_goto (tgt := 54) hx hb dX1_kth_50 (by decide) ?_
          have hFc := va_free (wc := md ca ad th t k v n nw w kd ln u9.1 u9.2 fq) hD hS hA [0, 1, 2, 3, 4, 5, 6] rfl
          refine va_calli (va_runV (As := [.int 0, .int 1]) (rest := []) ⟨hx, hb, hml, hown, hts⟩ (m_refuse l dC dI ca ad _ th t k v n nw w kd ln u9.1 u9.2 fq 0 1) (cwV 2 hts (gg_V mlX1_46 imX1_refuse seX1_refuse in_WindowMetersModel kwX1_refuse) rfl rfl rfl (by decide +kernel) ⟨Nat.le_of_ble_eq_true rfl, Nat.le_of_ble_eq_true rfl⟩) (md_preV hK hP hD [.int 0, .int 1]) rfl rfl hl.1 rfl (lv_room (Nat.le_of_ble_eq_true rfl)) dX1_kth_54 ⟨Nat.le_of_ble_eq_true rfl, Nat.le_of_ble_eq_true rfl⟩) hS (fun q _ h => hFc q h) hFc (fun r_26 uz9 t9 H1 locs ht9 hvm hw_27 hB hz1 hk1 hS => ?_)
          obtain ⟨hP, -, hD1⟩ := hB
          rw [ht9] at hP
          have hD := hD1.weaken (fun k q hk h => hFc q.1 h)
          rw [show mr_th 0 1 = 2 from by decide] at hP hD
          generalize H1 = H at hP hS ⊢
          have hP : va_P (dC, dI) vwCl (md ca ad 2 t k v n nw w kd ln u9.1 u9.2 fq) H := hP
          have hD : va_D A (md ca ad 2 t k v n nw w kd ln u9.1 u9.2 fq) := hD
          obtain rfl : r_26 = 1 := mk_yes hw_27 (by decide)
          refine lv_if_eq (tgt := 62) hx hb dX1_kth_57 (by decide) (fun c_28 => ?_) (fun c_28 => ?_)
          · first | exact absurd rfl c_28 | exact absurd c_28 (by decide)
          · refine lv_iconst (v := 0) hx hb dX1_kth_60 (by decide) ?_
            exact W.iret (v := 0) hx hb hr (fun t9 ht hW => ⟨⟨_, (2, u9.1, u9.2, fq), rfl, Or.inr (Or.inr ⟨wi, hwi, hpw, rfl, hw_13, fun q => mk_z hr_21 c_22 ((qx_in_pred (by omega)).mpr q)⟩), by rw [ht]; exact hP, va_K.moved hW.alike hK, hD⟩, hS.F ht⟩) hS.2.2 dX1_kth_61
    · exact absurd (mk_nz hr_2 c_3) (mk_z hr_15 c_16)

set_option maxRecDepth 100000 in
set_option maxHeartbeats 4000000 in
/-- frequent(w) -/
theorem m_frequent (l : Launch) (dC : Nat → ClassId) (dI : Nat → Nat → Nat) (ca : Nat → ClassId) (ad : Nat → Nat) (sz : Nat) (th : Int32) (t : Nat → Int32) (k : Nat → Nat) (v : Nat → Int32) (n : Nat) (nw : Int32) (w : Nat) (kd : Nat → Int32) (ln : Nat → Int32) (hd : Nat) (so : Nat → Int32) (fq : Nat) (p1 : Int32) (hn : n ≤ 300) (hk8 : ∀ j, j < n → k j < 8) (hw6 : w ≤ 6) : Met l yX1_frequent wsX1_frequent ({ frames := 3, cells := 0, slots := 0, locals := 71 }) (va_Pc [.ref (ad 0), .int p1] (mdPre dC dI ca ad sz th t k v n nw w kd ln hd so fq)) (va_Qi (fun (r : Int32) (u : Int32 × Nat × (Nat → Int32) × Nat) => (∃ wi j9, wi < w ∧ p1 = nI wi ∧ u.1 = 0 ∧ mh_ok v (fun j => mi_in t k n nw (kd wi) (ln wi) j) n u.2.1 u.2.2.1 ∧ j9 < u.2.1 ∧ (mo_f u.2.2.1 u.2.1).1 = some j9 ∧ r = u.2.2.1 j9) ∨ (¬ qx_win w p1 ∧ u.1 = 1) ∨ (∃ wi, wi < w ∧ p1 = nI wi ∧ u.1 = 2 ∧ mh_ok v (fun j => mi_in t k n nw (kd wi) (ln wi) j) n u.2.1 u.2.2.1 ∧ u.2.1 = 0)) (fun u t9 => mdAt dC dI ca ad (va_A (md ca ad th t k v n nw w kd ln hd so fq) sz) u.1 t k v n nw w kd ln u.2.1 u.2.2.1 u.2.2.2 t9) (va_A (md ca ad th t k v n nw w kd ln hd so fq) sz)) 0 0 (va_A (md ca ad th t k v n nw w kd ln hd so fq) sz) := by
  refine Met.ofW (cc := cX1_frequent) (maxL := 2) (ret := (some .int)) (by decide) rfl ?_
  intro p e s m args below meth c s₁ B hml hv
  obtain ⟨rfl, hsz, hP, hK, hD0⟩ := hv
  have hx := B.exec
  have hb := B.bytes
  have hr := B.returns
  have hts := atoms_spec (ws := wsX1_frequent) B.pre
  have hown : s.vm.findClass RX1 = some m.cls := findClass_of_methodNamed B.named
  have hlocks := B.notSynchronized
  subst hsz
  have hin0 : ∀ w ∈ u_ws RX1 TX1 12, w ∈ wsX1_frequent := fun w h => List.mem_cons_of_mem _ (wiX1 w h)
  have fl_25 := hts _ (List.mem_cons_of_mem _ flX1_25)
  have fl_58 := hts _ (List.mem_cons_of_mem _ flX1_58)
  have hD := hD0.self (sz := s.heap.size)
  generalize hAe : va_A (md ca ad th t k v n nw w kd ln hd so fq) s.heap.size = A at hD ⊢
  have hA : ∀ q : Nat, s.heap.size ≤ q → A q := fun q h => by rw [← hAe]; exact Or.inr h
  have hS : va_S A s.heap s.heap [] := va_S.rf
  have hl := lv_entry ([.ref (ad 0), .int p1]) (n := 2) (Nat.le_of_ble_eq_true rfl)
  rw [lg_entry_eq]
  generalize (lg_sl ([.ref (ad 0), .int p1]) ++ List.replicate (2 - (lg_sl ([.ref (ad 0), .int p1])).length) Slot.unset).toArray = ls at hl ⊢
  have hl : lv_has ls 2 [(0, .ref (ad 0)), (1, .int p1)] := hl
  refine lv_aload_n hx hb dX1_frequent_0 rfl (lv_at hl 0 rfl) ?_
  refine lv_iload_n hx hb dX1_frequent_1 rfl (lv_at hl 1 rfl) ?_
  refine vp_callSi (W.runV (As := [.int p1]) (rest := []) ⟨hx, hb, hml, hown, hts⟩ (m_isWindow l dC dI ca ad _ th t k v n nw w kd ln hd so fq  p1 hw6) (cwV 1 hts (gg_V mlX1_67 imX1_isWindow seX1_isWindow in_WindowMetersModel kwX1_isWindow) rfl rfl rfl (by decide +kernel) ⟨Nat.le_of_ble_eq_true rfl, Nat.le_of_ble_eq_true rfl⟩) (md_preV hK hP hD [.int p1]) rfl rfl hl.1 rfl (lv_room (Nat.le_of_ble_eq_true rfl)) dX1_frequent_2 ⟨Nat.le_of_ble_eq_true rfl, Nat.le_of_ble_eq_true rfl⟩) (fun r_1 hr_2 => ?_)
  refine lv_if_eq (tgt := 13) hx hb dX1_frequent_5 (by decide) (fun c_3 => ?_) (fun c_3 => ?_)
  · refine lv_aload_n hx hb dX1_frequent_13 rfl (lv_at hl 0 rfl) ?_
    refine lv_aload_n hx hb dX1_frequent_14 rfl (lv_at hl 0 rfl) ?_
    refine lv_iload_n hx hb dX1_frequent_15 rfl (lv_at hl 1 rfl) ?_
    refine vp_callSi (W.runV (As := [.int p1]) (rest := [.ref (ad 0)]) ⟨hx, hb, hml, hown, hts⟩ (m_isWindow l dC dI ca ad _ th t k v n nw w kd ln hd so fq  p1 hw6) (cwV 1 hts (gg_V mlX1_67 imX1_isWindow seX1_isWindow in_WindowMetersModel kwX1_isWindow) rfl rfl rfl (by decide +kernel) ⟨Nat.le_of_ble_eq_true rfl, Nat.le_of_ble_eq_true rfl⟩) (md_preV hK hP hD [.int p1]) rfl rfl hl.1 rfl (lv_room (Nat.le_of_ble_eq_true rfl)) dX1_frequent_16 ⟨Nat.le_of_ble_eq_true rfl, Nat.le_of_ble_eq_true rfl⟩) (fun r_4 hr_5 => ?_)
    refine lv_if_ne (tgt := 26) hx hb dX1_frequent_19 (by decide) (fun c_6 => ?_) (fun c_6 => ?_)
    · exact absurd (mk_nz hr_5 c_6) (mk_z hr_2 c_3)
    · refine lv_iconst (v := 1) hx hb dX1_frequent_22 (by decide) ?_
      refine lv_goto (tgt := 27) hx hb dX1_frequent_23 (by decide) ?_
      refine lv_aload_n hx hb dX1_frequent_27 rfl (lv_at hl 0 rfl) ?_
      refine lv_iload_n hx hb dX1_frequent_28 rfl (lv_at hl 1 rfl) ?_
      refine vp_callSi (W.runV (As := [.int p1]) (rest := [.int 1, .ref (ad 0)]) ⟨hx, hb, hml, hown, hts⟩ (m_isWindow l dC dI ca ad _ th t k v n nw w kd ln hd so fq  p1 hw6) (cwV 1 hts (gg_V mlX1_67 imX1_isWindow seX1_isWindow in_WindowMetersModel kwX1_isWindow) rfl rfl rfl (by decide +kernel) ⟨Nat.le_of_ble_eq_true rfl, Nat.le_of_ble_eq_true rfl⟩) (md_preV hK hP hD [.int p1]) rfl rfl hl.1 rfl (lv_room (Nat.le_of_ble_eq_true rfl)) dX1_frequent_29 ⟨Nat.le_of_ble_eq_true rfl, Nat.le_of_ble_eq_true rfl⟩) (fun r_7 hr_8 => ?_)
      refine lv_if_eq (tgt := 46) hx hb dX1_frequent_32 (by decide) (fun c_9 => ?_) (fun c_9 => ?_)
      · refine lv_iconst (v := 0) hx hb dX1_frequent_46 (by decide) ?_
        have hFc := va_free (wc := md ca ad th t k v n nw w kd ln hd so fq) hD hS hA [0, 1, 2, 3, 4, 5, 6] rfl
        refine va_calli (va_runV (As := [.int 1, .int 0]) (rest := []) ⟨hx, hb, hml, hown, hts⟩ (m_refuse l dC dI ca ad _ th t k v n nw w kd ln hd so fq 1 0) (cwV 2 hts (gg_V mlX1_46 imX1_refuse seX1_refuse in_WindowMetersModel kwX1_refuse) rfl rfl rfl (by decide +kernel) ⟨Nat.le_of_ble_eq_true rfl, Nat.le_of_ble_eq_true rfl⟩) (md_preV hK hP hD [.int 1, .int 0]) rfl rfl hl.1 rfl (lv_room (Nat.le_of_ble_eq_true rfl)) dX1_frequent_47 ⟨Nat.le_of_ble_eq_true rfl, Nat.le_of_ble_eq_true rfl⟩) hS (fun q _ h => hFc q h) hFc (fun r_10 uz9 t9 H1 locs ht9 hvm hw_11 hB hz1 hk1 hS => ?_)
        obtain ⟨hP, -, hD1⟩ := hB
        rw [ht9] at hP
        have hD := hD1.weaken (fun k q hk h => hFc q.1 h)
        rw [show mr_th 1 0 = 1 from by decide] at hP hD
        generalize H1 = H at hP hS ⊢
        have hP : va_P (dC, dI) vwCl (md ca ad 1 t k v n nw w kd ln hd so fq) H := hP
        have hD : va_D A (md ca ad 1 t k v n nw w kd ln hd so fq) := hD
        obtain rfl : r_10 = 1 := mk_yes hw_11 (by decide)
        refine lv_if_eq (tgt := 55) hx hb dX1_frequent_50 (by decide) (fun c_12 => ?_) (fun c_12 => ?_)
        · first | exact absurd rfl c_12 | exact absurd c_12 (by decide)
        · refine lv_iconst (v := 0) hx hb dX1_frequent_53 (by decide) ?_
          exact W.iret (v := 0) hx hb hr (fun t9 ht hW => ⟨⟨_, (1, hd, so, fq), rfl, Or.inr (Or.inl ⟨mk_z hr_2 c_3, rfl⟩), by rw [ht]; exact hP, va_K.moved hW.alike hK, hD⟩, hS.F ht⟩) hS.2.2 dX1_frequent_54
      · exact absurd (mk_nz hr_8 c_9) (mk_z hr_2 c_3)
  · obtain ⟨wi, hwi, hpw⟩ := mk_nz hr_2 c_3
    rw [hpw] at hl
    have hl : lv_has ls 2 [(0, .ref (ad 0)), (1, .int (nI wi))] := hl
    rw [hpw] at hr_2
    refine lv_aload_n hx hb dX1_frequent_8 rfl (lv_at hl 0 rfl) ?_
    refine lv_iload_n hx hb dX1_frequent_9 rfl (lv_at hl 1 rfl) ?_
    have hFc := va_free (wc := md ca ad th t k v n nw w kd ln hd so fq) hD hS hA [0, 1, 2, 3, 4, 5, 6] rfl
    refine va_callv (va_runV (As := [.int (nI wi)]) (rest := []) ⟨hx, hb, hml, hown, hts⟩ (m_hold l dC dI ca ad _ th t k v n nw w kd ln hd so fq wi  hn hk8 (by omega)) (cwV 1 hts (gg_V mlX1_71 imX1_hold seX1_hold in_WindowMetersModel kwX1_hold) rfl rfl rfl (by decide +kernel) ⟨Nat.le_of_ble_eq_true rfl, Nat.le_of_ble_eq_true rfl⟩) (md_preV hK hP hD [.int (nI wi)]) rfl rfl hl.1 rfl (lv_room (Nat.le_of_ble_eq_true rfl)) dX1_frequent_10 ⟨Nat.le_of_ble_eq_true rfl, Nat.le_of_ble_eq_true rfl⟩) hS (fun q _ h => hFc q h) hFc (fun u9 t9 H1 locs ht9 hvm hw_13 hB hz1 hk1 hS => ?_)
    obtain ⟨hP, -, hD1⟩ := hB
    rw [ht9] at hP
    have hD := hD1.weaken (fun k q hk h => hFc q.1 h)
    generalize H1 = H at hP hS ⊢
    have hP : va_P (dC, dI) vwCl (md ca ad th t k v n nw w kd ln u9.1 u9.2 fq) H := hP
    have hD : va_D A (md ca ad th t k v n nw w kd ln u9.1 u9.2 fq) := hD
    have hh9 : u9.1 ≤ 300 := Nat.le_trans hw_13.1 hn
    refine lv_aload_n hx hb dX1_frequent_13 rfl (lv_at hl 0 rfl) ?_
    refine lv_aload_n hx hb dX1_frequent_14 rfl (lv_at hl 0 rfl) ?_
    refine lv_iload_n hx hb dX1_frequent_15 rfl (lv_at hl 1 rfl) ?_
    refine vp_callSi (W.runV (As := [.int (nI wi)]) (rest := [.ref (ad 0)]) ⟨hx, hb, hml, hown, hts⟩ (m_isWindow l dC dI ca ad _ th t k v n nw w kd ln u9.1 u9.2 fq  (nI wi) hw6) (cwV 1 hts (gg_V mlX1_67 imX1_isWindow seX1_isWindow in_WindowMetersModel kwX1_isWindow) rfl rfl rfl (by decide +kernel) ⟨Nat.le_of_ble_eq_true rfl, Nat.le_of_ble_eq_true rfl⟩) (md_preV hK hP hD [.int (nI wi)]) rfl rfl hl.1 rfl (lv_room (Nat.le_of_ble_eq_true rfl)) dX1_frequent_16 ⟨Nat.le_of_ble_eq_true rfl, Nat.le_of_ble_eq_true rfl⟩) (fun r_14 hr_15 => ?_)
    refine lv_if_ne (tgt := 26) hx hb dX1_frequent_19 (by decide) (fun c_16 => ?_) (fun c_16 => ?_)
    · refine lv_iconst (v := 0) hx hb dX1_frequent_26 (by decide) ?_
      refine lv_aload_n hx hb dX1_frequent_27 rfl (lv_at hl 0 rfl) ?_
      refine lv_iload_n hx hb dX1_frequent_28 rfl (lv_at hl 1 rfl) ?_
      refine vp_callSi (W.runV (As := [.int (nI wi)]) (rest := [.int 0, .ref (ad 0)]) ⟨hx, hb, hml, hown, hts⟩ (m_isWindow l dC dI ca ad _ th t k v n nw w kd ln u9.1 u9.2 fq  (nI wi) hw6) (cwV 1 hts (gg_V mlX1_67 imX1_isWindow seX1_isWindow in_WindowMetersModel kwX1_isWindow) rfl rfl rfl (by decide +kernel) ⟨Nat.le_of_ble_eq_true rfl, Nat.le_of_ble_eq_true rfl⟩) (md_preV hK hP hD [.int (nI wi)]) rfl rfl hl.1 rfl (lv_room (Nat.le_of_ble_eq_true rfl)) dX1_frequent_29 ⟨Nat.le_of_ble_eq_true rfl, Nat.le_of_ble_eq_true rfl⟩) (fun r_17 hr_18 => ?_)
      refine lv_if_eq (tgt := 46) hx hb dX1_frequent_32 (by decide) (fun c_19 => ?_) (fun c_19 => ?_)
      · exact absurd (mk_nz hr_2 c_3) (mk_z hr_18 c_19)
      · refine lv_aload_n hx hb dX1_frequent_35 rfl (lv_at hl 0 rfl) ?_
        refine va_get (D := (dC, dI)) (ci := 1) (v := .int (nI u9.1)) (C := RX1) (T := TX1) (N := 12) hx hb hts hin0 hown hK hP 0 rfl rfl 9 (by decide) fl_58 (fun _ h9 => h9) rfl dX1_frequent_36 ?_
        refine lv_if_ne (tgt := 46) hx hb dX1_frequent_39 (by decide) (fun c_20 => ?_) (fun c_20 => ?_)
        · have hpos : 0 < u9.1 := Nat.pos_of_ne_zero (fun q => c_20 (by rw [q]; rfl))
          refine lv_iconst (v := 0) hx hb dX1_frequent_46 (by decide) ?_
          have hFc := va_free (wc := md ca ad th t k v n nw w kd ln u9.1 u9.2 fq) hD hS hA [0, 1, 2, 3, 4, 5, 6] rfl
          refine va_calli (va_runV (As := [.int 0, .int 0]) (rest := []) ⟨hx, hb, hml, hown, hts⟩ (m_refuse l dC dI ca ad _ th t k v n nw w kd ln u9.1 u9.2 fq 0 0) (cwV 2 hts (gg_V mlX1_46 imX1_refuse seX1_refuse in_WindowMetersModel kwX1_refuse) rfl rfl rfl (by decide +kernel) ⟨Nat.le_of_ble_eq_true rfl, Nat.le_of_ble_eq_true rfl⟩) (md_preV hK hP hD [.int 0, .int 0]) rfl rfl hl.1 rfl (lv_room (Nat.le_of_ble_eq_true rfl)) dX1_frequent_47 ⟨Nat.le_of_ble_eq_true rfl, Nat.le_of_ble_eq_true rfl⟩) hS (fun q _ h => hFc q h) hFc (fun r_21 uz9 t9 H1 locs ht9 hvm hw_22 hB hz1 hk1 hS => ?_)
          obtain ⟨hP, -, hD1⟩ := hB
          rw [ht9] at hP
          have hD := hD1.weaken (fun k q hk h => hFc q.1 h)
          rw [show mr_th 0 0 = 0 from by decide] at hP hD
          generalize H1 = H at hP hS ⊢
          have hP : va_P (dC, dI) vwCl (md ca ad 0 t k v n nw w kd ln u9.1 u9.2 fq) H := hP
          have hD : va_D A (md ca ad 0 t k v n nw w kd ln u9.1 u9.2 fq) := hD
          obtain rfl : r_21 = 0 := mk_no hw_22 (by decide)
          refine lv_if_eq (tgt := 55) hx hb dX1_frequent_50 (by decide) (fun c_23 => ?_) (fun c_23 => ?_)
          · refine lv_aload_n hx hb dX1_frequent_55 rfl (lv_at hl 0 rfl) ?_
            refine va_get (D := (dC, dI)) (ci := 1) (v := .ref (ad 6)) (C := RX1) (T := TX1) (N := 12) hx hb hts hin0 hown hK hP 0 rfl rfl 10 (by decide) fl_25 (fun _ h9 => h9) rfl dX1_frequent_56 ?_
            refine lv_aload_n hx hb dX1_frequent_59 rfl (lv_at hl 0 rfl) ?_
            have hFc := va_free (wc := md ca ad 0 t k v n nw w kd ln u9.1 u9.2 fq) hD hS hA [0, 1, 2, 3, 4, 5, 6] rfl
            refine va_calli (va_runV (As := []) (rest := [.ref (ad 6)]) ⟨hx, hb, hml, hown, hts⟩ (m_most l dC dI ca ad _ 0 t k v n nw w kd ln u9.1 u9.2 fq hh9) (cwV 0 hts (gg_V mlX1_75 imX1_most seX1_most in_WindowMetersModel kwX1_most) rfl rfl rfl (by decide +kernel) ⟨Nat.le_of_ble_eq_true rfl, Nat.le_of_ble_eq_true rfl⟩) (md_preV hK hP hD []) rfl rfl hl.1 rfl (lv_room (Nat.le_of_ble_eq_true rfl)) dX1_frequent_60 ⟨Nat.le_of_ble_eq_true rfl, Nat.le_of_ble_eq_true rfl⟩) hS (fun q _ h => hFc q h) hFc (fun r_24 f9 t9 H1 locs ht9 hvm hw_25 hB hz1 hk1 hS => ?_)
            obtain ⟨hP, -, hD1⟩ := hB
            rw [ht9] at hP
            have hD := hD1.weaken (fun k q hk h => hFc q.1 h)
            generalize H1 = H at hP hS ⊢
            have hP : va_P (dC, dI) vwCl (md ca ad 0 t k v n nw w kd ln u9.1 u9.2 f9) H := hP
            have hD : va_D A (md ca ad 0 t k v n nw w kd ln u9.1 u9.2 f9) := hD
            obtain ⟨j9, hj⟩ := (mo_some u9.2 u9.1 hpos).2
            have hj9 : j9 < u9.1 := (mo_in u9.2 u9.1).1 j9 hj
            obtain rfl : r_24 = nI j9 := by rw [hw_25.1, hj]; rfl
            refine ya_iald hx hb hK hP 6 5 rfl rfl (j := j9) (by omega) (by decide) dX1_frequent_63 ?_
            exact W.iret (v := (u9.2 j9)) hx hb hr (fun t9 ht hW => ⟨⟨_, (0, u9.1, u9.2, f9), rfl, Or.inl ⟨wi, j9, hwi, hpw, rfl, hw_13, hj9, hj, rfl⟩, by rw [ht]; exact hP, va_K.moved hW.alike hK, hD⟩, hS.F ht⟩) hS.2.2 dX1_frequent_64
          · first | exact absurd rfl c_23 | exact absurd c_23 (by decide)
        · have hz0 : u9.1 = 0 := Decidable.byContradiction (fun q => yn_n0 (Nat.pos_of_ne_zero q) (by omega) c_20)
          refine lv_iconst (v := 1) hx hb dX1_frequent_42 (by decide) ?_
          refine lv_goto (tgt := 47) hx hb dX1_frequent_43 (by decide) ?_
          have hFc := va_free (wc := md ca ad th t k v n nw w kd ln u9.1 u9.2 fq) hD hS hA [0, 1, 2, 3, 4, 5, 6] rfl
          refine va_calli (va_runV (As := [.int 0, .int 1]) (rest := []) ⟨hx, hb, hml, hown, hts⟩ (m_refuse l dC dI ca ad _ th t k v n nw w kd ln u9.1 u9.2 fq 0 1) (cwV 2 hts (gg_V mlX1_46 imX1_refuse seX1_refuse in_WindowMetersModel kwX1_refuse) rfl rfl rfl (by decide +kernel) ⟨Nat.le_of_ble_eq_true rfl, Nat.le_of_ble_eq_true rfl⟩) (md_preV hK hP hD [.int 0, .int 1]) rfl rfl hl.1 rfl (lv_room (Nat.le_of_ble_eq_true rfl)) dX1_frequent_47 ⟨Nat.le_of_ble_eq_true rfl, Nat.le_of_ble_eq_true rfl⟩) hS (fun q _ h => hFc q h) hFc (fun r_26 uz9 t9 H1 locs ht9 hvm hw_27 hB hz1 hk1 hS => ?_)
          obtain ⟨hP, -, hD1⟩ := hB
          rw [ht9] at hP
          have hD := hD1.weaken (fun k q hk h => hFc q.1 h)
          rw [show mr_th 0 1 = 2 from by decide] at hP hD
          generalize H1 = H at hP hS ⊢
          have hP : va_P (dC, dI) vwCl (md ca ad 2 t k v n nw w kd ln u9.1 u9.2 fq) H := hP
          have hD : va_D A (md ca ad 2 t k v n nw w kd ln u9.1 u9.2 fq) := hD
          obtain rfl : r_26 = 1 := mk_yes hw_27 (by decide)
          refine lv_if_eq (tgt := 55) hx hb dX1_frequent_50 (by decide) (fun c_28 => ?_) (fun c_28 => ?_)
          · first | exact absurd rfl c_28 | exact absurd c_28 (by decide)
          · refine lv_iconst (v := 0) hx hb dX1_frequent_53 (by decide) ?_
            exact W.iret (v := 0) hx hb hr (fun t9 ht hW => ⟨⟨_, (2, u9.1, u9.2, fq), rfl, Or.inr (Or.inr ⟨wi, hwi, hpw, rfl, hw_13, hz0⟩), by rw [ht]; exact hP, va_K.moved hW.alike hK, hD⟩, hS.F ht⟩) hS.2.2 dX1_frequent_54
    · exact absurd (mk_nz hr_2 c_3) (mk_z hr_15 c_16)

set_option maxRecDepth 100000 in
set_option maxHeartbeats 4000000 in
/-- WindowMetersModel() -/
theorem c_X1_init (l : Launch) (dC : Nat → ClassId) (dI : Nat → Nat → Nat) (h0 sz : Nat) : Met l yX1_init wsX1_init ({ frames := 1, cells := 6, slots := 1212, locals := 12 }) (va_Pc [.ref h0] (fun U => U.heap.size = sz ∧ va_P (dC, dI) vwCl [(h0, .inr (1, [.int 0, .int 0, .null, .null, .null, .int 0, .int 0, .null, .null, .int 0, .null, .int 0]))] U.heap ∧ va_K (dC, dI) vwCl [] U ∧ va_D (fun _ => True) [(h0, .inr (1, [.int 0, .int 0, .null, .null, .null, .int 0, .int 0, .null, .null, .int 0, .null, .int 0]))])) (va_Qv (fun u : (Nat → ClassId) × (Nat → Nat) => u.2 0 = h0) (fun u t9 => mdAt dC dI u.1 u.2 (va_A [(h0, .inr (1, [.int 0, .int 0, .null, .null, .null, .int 0, .int 0, .null, .null, .int 0, .null, .int 0]))] sz) 0 (fun _ => 0) (fun _ => 0) (fun _ => 0) 0 0 0 (fun _ => 0) (fun _ => 0) 0 (fun _ => 0) 0 t9) (va_A [(h0, .inr (1, [.int 0, .int 0, .null, .null, .null, .int 0, .int 0, .null, .null, .int 0, .null, .int 0]))] sz)) 6 1212 (va_A [(h0, .inr (1, [.int 0, .int 0, .null, .null, .null, .int 0, .int 0, .null, .null, .int 0, .null, .int 0]))] sz) := by
  refine Met.ofW (cc := cX1_init) (maxL := 1) (ret := none) (by decide) rfl ?_
  intro p e s m args below meth c s₁ B hml hv
  obtain ⟨rfl, hsz, hP, hK, hD0⟩ := hv
  have hx := B.exec
  have hb := B.bytes
  have hr := B.returns
  have hts := atoms_spec (ws := wsX1_init) B.pre
  have hown : s.vm.findClass RX1 = some m.cls := findClass_of_methodNamed B.named
  have hlocks := B.notSynchronized
  have hin : meth.name = "<init>" := (name_of_methodNamed B.named B.method).1
  subst hsz
  have hin0 : ∀ w ∈ u_ws RX1 TX1 12, w ∈ wsX1_init := fun w h => List.mem_cons_of_mem _ (wiX1 w h)
  have hD := hD0.self (sz := s.heap.size)
  generalize hAe : va_A [(h0, .inr (1, [.int 0, .int 0, .null, .null, .null, .int 0, .int 0, .null, .null, .int 0, .null, .int 0]))] s.heap.size = A at hD ⊢
  have hA : ∀ q : Nat, s.heap.size ≤ q → A q := fun q h => by rw [← hAe]; exact Or.inr h
  have hS : va_S A s.heap s.heap [] := va_S.rf
  have hl := lv_entry ([.ref h0]) (n := 1) (Nat.le_of_ble_eq_true rfl)
  rw [lg_entry_eq]
  generalize (lg_sl ([.ref h0]) ++ List.replicate (1 - (lg_sl ([.ref h0])).length) Slot.unset).toArray = ls at hl ⊢
  have hl : lv_has ls 1 [(0, .ref h0)] := hl
  refine lv_aload_n hx hb dX1_init_0 rfl (lv_at hl 0 rfl) ?_
  refine W.objInit hx hb hown (hts _ (List.mem_cons_of_mem _ mlX1_1)) (hts _ (List.mem_cons_of_mem _ im_obj)) (hts _ (List.mem_cons_of_mem _ kw_obj)) rfl (by rw [hml]; exact hl.1) rfl dX1_init_1 (Nat.le_of_ble_eq_true rfl) (Nat.le_of_ble_eq_true rfl) ?_
  refine W.eq (g2 := F0 m 4 ls []) rfl ?_
  refine lv_aload_n hx hb dX1_init_4 rfl (lv_at hl 0 rfl) ?_
  refine lv_sipush (v := 300) hx hb dX1_init_5 (by decide) ?_
  refine va_newa (atype := .int) (N' := 300) (a0 := (300, .inl (fun _ => 0))) (ty := .int) hx hb (hts _ (List.mem_cons_of_mem _ ac_int)) rfl hK hP hD hS hA (fun _ => rfl) (by decide) (by decide) (by decide) (Nat.le_of_ble_eq_true rfl) (Nat.le_of_ble_eq_true rfl) dX1_init_8 (fun q1 cA1 H hK hP hD hS => ?_)
  have hK : va_K (dC, dI) vwCl [(cA1, .int)] s := hK
  have hP : va_P (dC, dI) vwCl [(h0, .inr (1, [.int 0, .int 0, .null, .null, .null, .int 0, .int 0, .null, .null, .int 0, .null, .int 0])), (q1, .inl (cA1, 300, .inl (fun _ => 0)))] H := hP
  have hD : va_D A [(h0, .inr (1, [.int 0, .int 0, .null, .null, .null, .int 0, .int 0, .null, .null, .int 0, .null, .int 0])), (q1, .inl (cA1, 300, .inl (fun _ => 0)))] := hD
  refine W.widen (k := 1) (n := 300) (Nat.le_of_ble_eq_true rfl) (Nat.le_of_ble_eq_true rfl) ?_
  refine va_putF (D := (dC, dI)) (ci := 1) (v := .ref q1) (ty := .array .int) (C := RX1) (T := TX1) (N := 12) hx hb hts hin0 tyX1 tyX1_ok nmX1 hown hK hP hD hS 0 rfl rfl 2 (by decide) (hts _ (List.mem_cons_of_mem _ flX1_7)) (fun _ h9 => h9) rfl hin rfl (by decide +kernel) rfl rfl (Nat.le_of_ble_eq_true rfl) dX1_init_10 (fun H locs hP hD hS => ?_)
  have hP : va_P (dC, dI) vwCl [(h0, .inr (1, [.int 0, .int 0, .ref q1, .null, .null, .int 0, .int 0, .null, .null, .int 0, .null, .int 0])), (q1, .inl (cA1, 300, .inl (fun _ => 0)))] H := hP
  have hD : va_D A [(h0, .inr (1, [.int 0, .int 0, .ref q1, .null, .null, .int 0, .int 0, .null, .null, .int 0, .null, .int 0])), (q1, .inl (cA1, 300, .inl (fun _ => 0)))] := hD
  refine lv_aload_n hx hb dX1_init_13 rfl (lv_at hl 0 rfl) ?_
  refine lv_sipush (v := 300) hx hb dX1_init_14 (by decide) ?_
  refine va_newa (atype := .int) (N' := 300) (a0 := (300, .inl (fun _ => 0))) (ty := .int) hx hb (hts _ (List.mem_cons_of_mem _ ac_int)) rfl hK hP hD hS hA (fun _ => rfl) (by decide) (by decide) (by decide) (Nat.le_of_ble_eq_true rfl) (Nat.le_of_ble_eq_true rfl) dX1_init_17 (fun q2 cA2 H hK hP hD hS => ?_)
  have hK : va_K (dC, dI) vwCl [(cA1, .int), (cA2, .int)] s := hK
  have hP : va_P (dC, dI) vwCl [(h0, .inr (1, [.int 0, .int 0, .ref q1, .null, .null, .int 0, .int 0, .null, .null, .int 0, .null, .int 0])), (q1, .inl (cA1, 300, .inl (fun _ => 0))), (q2, .inl (cA2, 300, .inl (fun _ => 0)))] H := hP
  have hD : va_D A [(h0, .inr (1, [.int 0, .int 0, .ref q1, .null, .null, .int 0, .int 0, .null, .null, .int 0, .null, .int 0])), (q1, .inl (cA1, 300, .inl (fun _ => 0))), (q2, .inl (cA2, 300, .inl (fun _ => 0)))] := hD
  refine W.widen (k := 2) (n := 600) (Nat.le_of_ble_eq_true rfl) (Nat.le_of_ble_eq_true rfl) ?_
  refine va_putF (D := (dC, dI)) (ci := 1) (v := .ref q2) (ty := .array .int) (C := RX1) (T := TX1) (N := 12) hx hb hts hin0 tyX1 tyX1_ok nmX1 hown hK hP hD hS 0 rfl rfl 3 (by decide) (hts _ (List.mem_cons_of_mem _ flX1_13)) (fun _ h9 => h9) rfl hin rfl (by decide +kernel) rfl rfl (Nat.le_of_ble_eq_true rfl) dX1_init_19 (fun H locs hP hD hS => ?_)
  have hP : va_P (dC, dI) vwCl [(h0, .inr (1, [.int 0, .int 0, .ref q1, .ref q2, .null, .int 0, .int 0, .null, .null, .int 0, .null, .int 0])), (q1, .inl (cA1, 300, .inl (fun _ => 0))), (q2, .inl (cA2, 300, .inl (fun _ => 0)))] H := hP
  have hD : va_D A [(h0, .inr (1, [.int 0, .int 0, .ref q1, .ref q2, .null, .int 0, .int 0, .null, .null, .int 0, .null, .int 0])), (q1, .inl (cA1, 300, .inl (fun _ => 0))), (q2, .inl (cA2, 300, .inl (fun _ => 0)))] := hD
  refine lv_aload_n hx hb dX1_init_22 rfl (lv_at hl 0 rfl) ?_
  refine lv_sipush (v := 300) hx hb dX1_init_23 (by decide) ?_
  refine va_newa (atype := .int) (N' := 300) (a0 := (300, .inl (fun _ => 0))) (ty := .int) hx hb (hts _ (List.mem_cons_of_mem _ ac_int)) rfl hK hP hD hS hA (fun _ => rfl) (by decide) (by decide) (by decide) (Nat.le_of_ble_eq_true rfl) (Nat.le_of_ble_eq_true rfl) dX1_init_26 (fun q3 cA3 H hK hP hD hS => ?_)
  have hK : va_K (dC, dI) vwCl [(cA1, .int), (cA2, .int), (cA3, .int)] s := hK
  have hP : va_P (dC, dI) vwCl [(h0, .inr (1, [.int 0, .int 0, .ref q1, .ref q2, .null, .int 0, .int 0, .null, .null, .int 0, .null, .int 0])), (q1, .inl (cA1, 300, .inl (fun _ => 0))), (q2, .inl (cA2, 300, .inl (fun _ => 0))), (q3, .inl (cA3, 300, .inl (fun _ => 0)))] H := hP
  have hD : va_D A [(h0, .inr (1, [.int 0, .int 0, .ref q1, .ref q2, .null, .int 0, .int 0, .null, .null, .int 0, .null, .int 0])), (q1, .inl (cA1, 300, .inl (fun _ => 0))), (q2, .inl (cA2, 300, .inl (fun _ => 0))), (q3, .inl (cA3, 300, .inl (fun _ => 0)))] := hD
  refine W.widen (k := 3) (n := 900) (Nat.le_of_ble_eq_true rfl) (Nat.le_of_ble_eq_true rfl) ?_
  refine va_putF (D := (dC, dI)) (ci := 1) (v := .ref q3) (ty := .array .int) (C := RX1) (T := TX1) (N := 12) hx hb hts hin0 tyX1 tyX1_ok nmX1 hown hK hP hD hS 0 rfl rfl 4 (by decide) (hts _ (List.mem_cons_of_mem _ flX1_16)) (fun _ h9 => h9) rfl hin rfl (by decide +kernel) rfl rfl (Nat.le_of_ble_eq_true rfl) dX1_init_28 (fun H locs hP hD hS => ?_)
  have hP : va_P (dC, dI) vwCl [(h0, .inr (1, [.int 0, .int 0, .ref q1, .ref q2, .ref q3, .int 0, .int 0, .null, .null, .int 0, .null, .int 0])), (q1, .inl (cA1, 300, .inl (fun _ => 0))), (q2, .inl (cA2, 300, .inl (fun _ => 0))), (q3, .inl (cA3, 300, .inl (fun _ => 0)))] H := hP
  have hD : va_D A [(h0, .inr (1, [.int 0, .int 0, .ref q1, .ref q2, .ref q3, .int 0, .int 0, .null, .null, .int 0, .null, .int 0])), (q1, .inl (cA1, 300, .inl (fun _ => 0))), (q2, .inl (cA2, 300, .inl (fun _ => 0))), (q3, .inl (cA3, 300, .inl (fun _ => 0)))] := hD
  refine lv_aload_n hx hb dX1_init_31 rfl (lv_at hl 0 rfl) ?_
  refine lv_bipush (v := 6) hx hb dX1_init_32 (by decide) ?_
  refine va_newa (atype := .int) (N' := 6) (a0 := (6, .inl (fun _ => 0))) (ty := .int) hx hb (hts _ (List.mem_cons_of_mem _ ac_int)) rfl hK hP hD hS hA (fun _ => rfl) (by decide) (by decide) (by decide) (Nat.le_of_ble_eq_true rfl) (Nat.le_of_ble_eq_true rfl) dX1_init_34 (fun q4 cA4 H hK hP hD hS => ?_)
  have hK : va_K (dC, dI) vwCl [(cA1, .int), (cA2, .int), (cA3, .int), (cA4, .int)] s := hK
  have hP : va_P (dC, dI) vwCl [(h0, .inr (1, [.int 0, .int 0, .ref q1, .ref q2, .ref q3, .int 0, .int 0, .null, .null, .int 0, .null, .int 0])), (q1, .inl (cA1, 300, .inl (fun _ => 0))), (q2, .inl (cA2, 300, .inl (fun _ => 0))), (q3, .inl (cA3, 300, .inl (fun _ => 0))), (q4, .inl (cA4, 6, .inl (fun _ => 0)))] H := hP
  have hD : va_D A [(h0, .inr (1, [.int 0, .int 0, .ref q1, .ref q2, .ref q3, .int 0, .int 0, .null, .null, .int 0, .null, .int 0])), (q1, .inl (cA1, 300, .inl (fun _ => 0))), (q2, .inl (cA2, 300, .inl (fun _ => 0))), (q3, .inl (cA3, 300, .inl (fun _ => 0))), (q4, .inl (cA4, 6, .inl (fun _ => 0)))] := hD
  refine W.widen (k := 4) (n := 906) (Nat.le_of_ble_eq_true rfl) (Nat.le_of_ble_eq_true rfl) ?_
  refine va_putF (D := (dC, dI)) (ci := 1) (v := .ref q4) (ty := .array .int) (C := RX1) (T := TX1) (N := 12) hx hb hts hin0 tyX1 tyX1_ok nmX1 hown hK hP hD hS 0 rfl rfl 7 (by decide) (hts _ (List.mem_cons_of_mem _ flX1_19)) (fun _ h9 => h9) rfl hin rfl (by decide +kernel) rfl rfl (Nat.le_of_ble_eq_true rfl) dX1_init_36 (fun H locs hP hD hS => ?_)
  have hP : va_P (dC, dI) vwCl [(h0, .inr (1, [.int 0, .int 0, .ref q1, .ref q2, .ref q3, .int 0, .int 0, .ref q4, .null, .int 0, .null, .int 0])), (q1, .inl (cA1, 300, .inl (fun _ => 0))), (q2, .inl (cA2, 300, .inl (fun _ => 0))), (q3, .inl (cA3, 300, .inl (fun _ => 0))), (q4, .inl (cA4, 6, .inl (fun _ => 0)))] H := hP
  have hD : va_D A [(h0, .inr (1, [.int 0, .int 0, .ref q1, .ref q2, .ref q3, .int 0, .int 0, .ref q4, .null, .int 0, .null, .int 0])), (q1, .inl (cA1, 300, .inl (fun _ => 0))), (q2, .inl (cA2, 300, .inl (fun _ => 0))), (q3, .inl (cA3, 300, .inl (fun _ => 0))), (q4, .inl (cA4, 6, .inl (fun _ => 0)))] := hD
  refine lv_aload_n hx hb dX1_init_39 rfl (lv_at hl 0 rfl) ?_
  refine lv_bipush (v := 6) hx hb dX1_init_40 (by decide) ?_
  refine va_newa (atype := .int) (N' := 6) (a0 := (6, .inl (fun _ => 0))) (ty := .int) hx hb (hts _ (List.mem_cons_of_mem _ ac_int)) rfl hK hP hD hS hA (fun _ => rfl) (by decide) (by decide) (by decide) (Nat.le_of_ble_eq_true rfl) (Nat.le_of_ble_eq_true rfl) dX1_init_42 (fun q5 cA5 H hK hP hD hS => ?_)
  have hK : va_K (dC, dI) vwCl [(cA1, .int), (cA2, .int), (cA3, .int), (cA4, .int), (cA5, .int)] s := hK
  have hP : va_P (dC, dI) vwCl [(h0, .inr (1, [.int 0, .int 0, .ref q1, .ref q2, .ref q3, .int 0, .int 0, .ref q4, .null, .int 0, .null, .int 0])), (q1, .inl (cA1, 300, .inl (fun _ => 0))), (q2, .inl (cA2, 300, .inl (fun _ => 0))), (q3, .inl (cA3, 300, .inl (fun _ => 0))), (q4, .inl (cA4, 6, .inl (fun _ => 0))), (q5, .inl (cA5, 6, .inl (fun _ => 0)))] H := hP
  have hD : va_D A [(h0, .inr (1, [.int 0, .int 0, .ref q1, .ref q2, .ref q3, .int 0, .int 0, .ref q4, .null, .int 0, .null, .int 0])), (q1, .inl (cA1, 300, .inl (fun _ => 0))), (q2, .inl (cA2, 300, .inl (fun _ => 0))), (q3, .inl (cA3, 300, .inl (fun _ => 0))), (q4, .inl (cA4, 6, .inl (fun _ => 0))), (q5, .inl (cA5, 6, .inl (fun _ => 0)))] := hD
  refine W.widen (k := 5) (n := 912) (Nat.le_of_ble_eq_true rfl) (Nat.le_of_ble_eq_true rfl) ?_
  refine va_putF (D := (dC, dI)) (ci := 1) (v := .ref q5) (ty := .array .int) (C := RX1) (T := TX1) (N := 12) hx hb hts hin0 tyX1 tyX1_ok nmX1 hown hK hP hD hS 0 rfl rfl 8 (by decide) (hts _ (List.mem_cons_of_mem _ flX1_22)) (fun _ h9 => h9) rfl hin rfl (by decide +kernel) rfl rfl (Nat.le_of_ble_eq_true rfl) dX1_init_44 (fun H locs hP hD hS => ?_)
  have hP : va_P (dC, dI) vwCl [(h0, .inr (1, [.int 0, .int 0, .ref q1, .ref q2, .ref q3, .int 0, .int 0, .ref q4, .ref q5, .int 0, .null, .int 0])), (q1, .inl (cA1, 300, .inl (fun _ => 0))), (q2, .inl (cA2, 300, .inl (fun _ => 0))), (q3, .inl (cA3, 300, .inl (fun _ => 0))), (q4, .inl (cA4, 6, .inl (fun _ => 0))), (q5, .inl (cA5, 6, .inl (fun _ => 0)))] H := hP
  have hD : va_D A [(h0, .inr (1, [.int 0, .int 0, .ref q1, .ref q2, .ref q3, .int 0, .int 0, .ref q4, .ref q5, .int 0, .null, .int 0])), (q1, .inl (cA1, 300, .inl (fun _ => 0))), (q2, .inl (cA2, 300, .inl (fun _ => 0))), (q3, .inl (cA3, 300, .inl (fun _ => 0))), (q4, .inl (cA4, 6, .inl (fun _ => 0))), (q5, .inl (cA5, 6, .inl (fun _ => 0)))] := hD
  refine lv_aload_n hx hb dX1_init_47 rfl (lv_at hl 0 rfl) ?_
  refine lv_sipush (v := 300) hx hb dX1_init_48 (by decide) ?_
  refine va_newa (atype := .int) (N' := 300) (a0 := (300, .inl (fun _ => 0))) (ty := .int) hx hb (hts _ (List.mem_cons_of_mem _ ac_int)) rfl hK hP hD hS hA (fun _ => rfl) (by decide) (by decide) (by decide) (Nat.le_of_ble_eq_true rfl) (Nat.le_of_ble_eq_true rfl) dX1_init_51 (fun q6 cA6 H hK hP hD hS => ?_)
  have hK : va_K (dC, dI) vwCl [(cA1, .int), (cA2, .int), (cA3, .int), (cA4, .int), (cA5, .int), (cA6, .int)] s := hK
  have hP : va_P (dC, dI) vwCl [(h0, .inr (1, [.int 0, .int 0, .ref q1, .ref q2, .ref q3, .int 0, .int 0, .ref q4, .ref q5, .int 0, .null, .int 0])), (q1, .inl (cA1, 300, .inl (fun _ => 0))), (q2, .inl (cA2, 300, .inl (fun _ => 0))), (q3, .inl (cA3, 300, .inl (fun _ => 0))), (q4, .inl (cA4, 6, .inl (fun _ => 0))), (q5, .inl (cA5, 6, .inl (fun _ => 0))), (q6, .inl (cA6, 300, .inl (fun _ => 0)))] H := hP
  have hD : va_D A [(h0, .inr (1, [.int 0, .int 0, .ref q1, .ref q2, .ref q3, .int 0, .int 0, .ref q4, .ref q5, .int 0, .null, .int 0])), (q1, .inl (cA1, 300, .inl (fun _ => 0))), (q2, .inl (cA2, 300, .inl (fun _ => 0))), (q3, .inl (cA3, 300, .inl (fun _ => 0))), (q4, .inl (cA4, 6, .inl (fun _ => 0))), (q5, .inl (cA5, 6, .inl (fun _ => 0))), (q6, .inl (cA6, 300, .inl (fun _ => 0)))] := hD
  refine W.widen (k := 6) (n := 1212) (Nat.le_of_ble_eq_true rfl) (Nat.le_of_ble_eq_true rfl) ?_
  refine va_putF (D := (dC, dI)) (ci := 1) (v := .ref q6) (ty := .array .int) (C := RX1) (T := TX1) (N := 12) hx hb hts hin0 tyX1 tyX1_ok nmX1 hown hK hP hD hS 0 rfl rfl 10 (by decide) (hts _ (List.mem_cons_of_mem _ flX1_25)) (fun _ h9 => h9) rfl hin rfl (by decide +kernel) rfl rfl (Nat.le_of_ble_eq_true rfl) dX1_init_53 (fun H locs hP hD hS => ?_)
  have hP : va_P (dC, dI) vwCl [(h0, .inr (1, [.int 0, .int 0, .ref q1, .ref q2, .ref q3, .int 0, .int 0, .ref q4, .ref q5, .int 0, .ref q6, .int 0])), (q1, .inl (cA1, 300, .inl (fun _ => 0))), (q2, .inl (cA2, 300, .inl (fun _ => 0))), (q3, .inl (cA3, 300, .inl (fun _ => 0))), (q4, .inl (cA4, 6, .inl (fun _ => 0))), (q5, .inl (cA5, 6, .inl (fun _ => 0))), (q6, .inl (cA6, 300, .inl (fun _ => 0)))] H := hP
  have hD : va_D A [(h0, .inr (1, [.int 0, .int 0, .ref q1, .ref q2, .ref q3, .int 0, .int 0, .ref q4, .ref q5, .int 0, .ref q6, .int 0])), (q1, .inl (cA1, 300, .inl (fun _ => 0))), (q2, .inl (cA2, 300, .inl (fun _ => 0))), (q3, .inl (cA3, 300, .inl (fun _ => 0))), (q4, .inl (cA4, 6, .inl (fun _ => 0))), (q5, .inl (cA5, 6, .inl (fun _ => 0))), (q6, .inl (cA6, 300, .inl (fun _ => 0)))] := hD
  exact W.vret hx hb hr (fun t9 ht hW => ⟨⟨((fun i => match i with | 1 => cA1 | 2 => cA2 | 3 => cA3 | 4 => cA4 | 5 => cA5 | 6 => cA6 | _ => cA1), (fun i => match i with | 0 => h0 | 1 => q1 | 2 => q2 | 3 => q3 | 4 => q4 | 5 => q5 | 6 => q6 | _ => 0)), rfl, rfl, by rw [ht]; exact hP, va_K.moved hW.alike hK, hD⟩, hS.F ht⟩) hS.2.2 dX1_init_56
