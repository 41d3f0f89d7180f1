/-- the cells of a WindowMetersModel -/
abbrev md (ca : Nat → ClassId) (ad : Nat → Nat) (th : Int32) (t : Nat → Int32) (k : Nat → Nat) (v : Nat → Int32) (n : Nat) (nw : Int32) (w : Nat) (kd : Nat → Int32) (ln : Nat → Int32) (hd : Nat) (so : Nat → Int32) (fq : Nat) : va_W := [(ad 0, .inr (1, [.int th, .int (nI n), .ref (ad 1), .ref (ad 2), .ref (ad 3), .int nw, .int (nI w), .ref (ad 4), .ref (ad 5), .int (nI hd), .ref (ad 6), .int (nI fq)])), (ad 1, .inl (ca 1, 300, .inl t)), (ad 2, .inl (ca 2, 300, .inl (fun j => nI (k j)))), (ad 3, .inl (ca 3, 300, .inl v)), (ad 4, .inl (ca 4, 6, .inl kd)), (ad 5, .inl (ca 5, 6, .inl ln)), (ad 6, .inl (ca 6, 300, .inl so))]
abbrev mdT (ca : Nat → ClassId) : List (ClassId × FieldType) := [(ca 1, .int), (ca 2, .int), (ca 3, .int), (ca 4, .int), (ca 5, .int), (ca 6, .int)]
abbrev mdPre (dC : Nat → ClassId) (dI : Nat → Nat → Nat) (ca : Nat → ClassId) (ad : Nat → Nat) (sz : Nat) (th : Int32) (t : Nat → Int32) (k : Nat → Nat) (v : Nat → Int32) (n : Nat) (nw : Int32) (w : Nat) (kd : Nat → Int32) (ln : Nat → Int32) (hd : Nat) (so : Nat → Int32) (fq : Nat) (U : State) : Prop := U.heap.size = sz ∧ va_P (dC, dI) vwCl (md ca ad th t k v n nw w kd ln hd so fq) U.heap ∧ va_K (dC, dI) vwCl (mdT ca) U ∧ va_D (fun _ => True) (md ca ad th t k v n nw w kd ln hd so fq)
abbrev mdAt (dC : Nat → ClassId) (dI : Nat → Nat → Nat) (ca : Nat → ClassId) (ad : Nat → Nat) (A : Nat → Prop) (th : Int32) (t : Nat → Int32) (k : Nat → Nat) (v : Nat → Int32) (n : Nat) (nw : Int32) (w : Nat) (kd : Nat → Int32) (ln : Nat → Int32) (hd : Nat) (so : Nat → Int32) (fq : Nat) (U : State) : Prop := va_P (dC, dI) vwCl (md ca ad th t k v n nw w kd ln hd so fq) U.heap ∧ va_K (dC, dI) vwCl (mdT ca) U ∧ va_D A (md ca ad th t k v n nw w kd ln hd so fq)
theorem md_preV {s : State} {H : Heap} {dC : Nat → ClassId} {dI : Nat → Nat → Nat} {ca : Nat → ClassId} {ad : Nat → Nat} {A : Nat → Prop} {th : Int32} {t : Nat → Int32} {k : Nat → Nat} {v : Nat → Int32} {n : Nat} {nw : Int32} {w : Nat} {kd : Nat → Int32} {ln : Nat → Int32} {hd : Nat} {so : Nat → Int32} {fq : Nat} (hK : va_K (dC, dI) vwCl (mdT ca) s) (hP : va_P (dC, dI) vwCl (md ca ad th t k v n nw w kd ln hd so fq) H) (hD : va_D A (md ca ad th t k v n nw w kd ln hd so fq)) (As : List Value) : PreV s H RX1 (ad 0) (va_Pc (.ref (ad 0) :: As) (mdPre dC dI ca ad H.size th t k v n nw w kd ln hd so fq)) As :=
  ⟨fun a U g mk q => by
    obtain ⟨q0, q1, qP, qK, qD⟩ := q
    exact ⟨q0, q1, qP, va_K.moved (u := U) (U := U.calling g mk a) (Vm.Alike.refl U.vm) qK, qD⟩,
   va_recv hK hP (ci := 1) (q0 := 0) rfl rfl, fun U hU hW => ⟨rfl, by rw [hU], by rw [hU]; exact hP, va_K.moved hW.alike hK, hD.weaken (fun _ _ _ _ => trivial)⟩⟩
/-- what the model's calls ask of a pair of truth values -/
def mr_th (x y : Int32) : Int32 := if x = 0 then (if y = 0 then 0 else 2) else 1
theorem mr_pos (x y : Int32) : qc_mk (if mr_th x y ≤ 0 then 0 else 1) (¬ (x = 0 ∧ y = 0)) := by
  unfold mr_th
  by_cases h : x = 0
  · by_cases g : y = 0
    · rw [if_pos h, if_pos g]; exact qc_mk0 (fun q => q ⟨h, g⟩)
    · rw [if_pos h, if_neg g]; exact qc_mk1 (fun q => g q.2)
  · rw [if_neg h]; exact qc_mk1 (fun q => h q.1)
set_option maxHeartbeats 4000000 in
set_option maxRecDepth 100000 in
/-- in(v, low, high) -/
theorem m_in (l : Launch) (p1 p2 p3 : Int32) : Met l yX1_in wsX1_in ({ frames := 0, cells := 0, slots := 0, locals := 0 }) (fun v _ => v = ([.int p1, .int p2, .int p3] : List Value).toArray) (vp_Si (fun r => qc_mk r (qx_in p1 p2 p3))) 0 0 (fun _ => False) := by
  refine Met.ofW (cc := cX1_in) (maxL := 3) (ret := (some .boolean)) (by decide) rfl ?_
  intro p e s m args below meth c s₁ B hml hv
  subst hv
  have hx := B.exec
  have hb := B.bytes
  have hr := B.returns
  have hlocks := B.notSynchronized
  have hl := lv_entry ([.int p1, .int p2, .int p3]) (n := 3) (Nat.le_of_ble_eq_true rfl)
  rw [lg_entry_eq]
  generalize (lg_sl ([.int p1, .int p2, .int p3]) ++ List.replicate (3 - (lg_sl ([.int p1, .int p2, .int p3])).length) Slot.unset).toArray = ls at hl ⊢
  have hl : lv_has ls 3 [(0, .int p1), (1, .int p2), (2, .int p3)] := hl
  refine lv_iload_n hx hb dX1_in_0 rfl (lv_at hl 0 rfl) ?_
  refine lv_iload_n hx hb dX1_in_1 rfl (lv_at hl 1 rfl) ?_
  refine lv_icmp_lt (tgt := 14) hx hb dX1_in_2 (by decide) (fun c_1 => ?_) (fun c_1 => ?_)
  · refine lv_iconst (v := 0) hx hb dX1_in_14 (by decide) ?_
    exact W.zret (v := 0) hx hb hr (by decide) (fun t ht hW => ⟨_, rfl, qc_mk0 (fun q => Int32.not_lt.mpr q.1 c_1), ht⟩) (fun q h => by cases h) dX1_in_15
  · refine lv_iload_n hx hb dX1_in_5 rfl (lv_at hl 0 rfl) ?_
    refine lv_iload_n hx hb dX1_in_6 rfl (lv_at hl 2 rfl) ?_
    refine lv_icmp_gt (tgt := 14) hx hb dX1_in_7 (by decide) (fun c_2 => ?_) (fun c_2 => ?_)
    · refine lv_iconst (v := 0) hx hb dX1_in_14 (by decide) ?_
      exact W.zret (v := 0) hx hb hr (by decide) (fun t ht hW => ⟨_, rfl, qc_mk0 (fun q => Int32.not_lt.mpr q.2 c_2), ht⟩) (fun q h => by cases h) dX1_in_15
    · refine lv_iconst (v := 1) hx hb dX1_in_10 (by decide) ?_
      refine lv_goto (tgt := 15) hx hb dX1_in_11 (by decide) ?_
      exact W.zret (v := 1) hx hb hr (by decide) (fun t ht hW => ⟨_, rfl, qc_mk1 ⟨Int32.not_lt.mp c_1, Int32.not_lt.mp c_2⟩, ht⟩) (fun q h => by cases h) dX1_in_15
set_option maxRecDepth 100000 in
set_option maxHeartbeats 4000000 in
/-- thrown() -/
theorem m_thrown (l : Launch) (dC : Nat → ClassId) (dI : Nat → Nat → Nat) (ca : Nat → ClassId) (ad : Nat → Nat) (sz : Nat) (th : Int32) (t : Nat → Int32) (k : Nat → Nat) (v : Nat → Int32) (n : Nat) (nw : Int32) (w : Nat) (kd : Nat → Int32) (ln : Nat → Int32) (hd : Nat) (so : Nat → Int32) (fq : Nat)  : Met l yX1_thrown wsX1_thrown ({ frames := 0, cells := 0, slots := 0, locals := 0 }) (va_Pc [.ref (ad 0)] (mdPre dC dI ca ad sz th t k v n nw w kd ln hd so fq)) (vp_Si (fun r => r = th)) 0 0 (fun _ => False) := by
  refine Met.ofW (cc := cX1_thrown) (maxL := 1) (ret := (some .int)) (by decide) rfl ?_
  intro p e s m args below meth c s₁ B hml hv
  obtain ⟨rfl, hsz, hP, hK, hD0⟩ := hv
  have hx := B.exec
  have hb := B.bytes
  have hr := B.returns
  have hts := atoms_spec (ws := wsX1_thrown) B.pre
  have hown : s.vm.findClass RX1 = some m.cls := findClass_of_methodNamed B.named
  have hlocks := B.notSynchronized
  subst hsz
  have hin0 : ∀ w ∈ u_ws RX1 TX1 12, w ∈ wsX1_thrown := fun w h => List.mem_cons_of_mem _ (wiX1 w h)
  have fl_28 := hts _ (List.mem_cons_of_mem _ flX1_28)
  have hD := hD0
  have hl := lv_entry ([.ref (ad 0)]) (n := 1) (Nat.le_of_ble_eq_true rfl)
  rw [lg_entry_eq]
  generalize (lg_sl ([.ref (ad 0)]) ++ List.replicate (1 - (lg_sl ([.ref (ad 0)])).length) Slot.unset).toArray = ls at hl ⊢
  have hl : lv_has ls 1 [(0, .ref (ad 0))] := hl
  refine lv_aload_n hx hb dX1_thrown_0 rfl (lv_at hl 0 rfl) ?_
  refine va_get (D := (dC, dI)) (ci := 1) (v := .int th) (C := RX1) (T := TX1) (N := 12) hx hb hts hin0 hown hK hP 0 rfl rfl 0 (by decide) fl_28 (fun _ h9 => h9) rfl dX1_thrown_1 ?_
  exact W.iret (v := th) hx hb hr (fun t ht hW => ⟨_, rfl, rfl, ht⟩) (fun q h => by cases h) dX1_thrown_4

set_option maxRecDepth 100000 in
set_option maxHeartbeats 4000000 in
/-- clear() -/
theorem m_clear (l : Launch) (dC : Nat → ClassId) (dI : Nat → Nat → Nat) (ca : Nat → ClassId) (ad : Nat → Nat) (sz : Nat) (th : Int32) (t : Nat → Int32) (k : Nat → Nat) (v : Nat → Int32) (n : Nat) (nw : Int32) (w : Nat) (kd : Nat → Int32) (ln : Nat → Int32) (hd : Nat) (so : Nat → Int32) (fq : Nat)  : Met l yX1_clear wsX1_clear ({ frames := 0, cells := 0, slots := 0, locals := 0 }) (va_Pc [.ref (ad 0)] (mdPre dC dI ca ad sz th t k v n nw w kd ln hd so fq)) (va_Qv (fun _ : Unit => True) (fun _ t9 => mdAt dC dI ca ad (va_A (md ca ad th t k v n nw w kd ln hd so fq) sz) 0 t k v 0 0 0 kd ln hd so fq t9) (va_A (md ca ad th t k v n nw w kd ln hd so fq) sz)) 0 0 (va_A (md ca ad th t k v n nw w kd ln hd so fq) sz) := by
  refine Met.ofW (cc := cX1_clear) (maxL := 1) (ret := none) (by decide) rfl ?_
  intro p e s m args below meth c s₁ B hml hv
  obtain ⟨rfl, hsz, hP, hK, hD0⟩ := hv
  have hx := B.exec
  have hb := B.bytes
  have hr := B.returns
  have hts := atoms_spec (ws := wsX1_clear) B.pre
  have hown : s.vm.findClass RX1 = some m.cls := findClass_of_methodNamed B.named
  have hlocks := B.notSynchronized
  subst hsz
  have hin0 : ∀ w ∈ u_ws RX1 TX1 12, w ∈ wsX1_clear := fun w h => List.mem_cons_of_mem _ (wiX1 w h)
  have fl_28 := hts _ (List.mem_cons_of_mem _ flX1_28)
  have fl_32 := hts _ (List.mem_cons_of_mem _ flX1_32)
  have fl_35 := hts _ (List.mem_cons_of_mem _ flX1_35)
  have fl_38 := hts _ (List.mem_cons_of_mem _ flX1_38)
  have hD := hD0.self (sz := s.heap.size)
  generalize hAe : va_A (md ca ad th t k v n nw w kd ln hd so fq) s.heap.size = A at hD ⊢
  have hA : ∀ q : Nat, s.heap.size ≤ q → A q := fun q h => by rw [← hAe]; exact Or.inr h
  have hS : va_S A s.heap s.heap [] := va_S.rf
  have hl := lv_entry ([.ref (ad 0)]) (n := 1) (Nat.le_of_ble_eq_true rfl)
  rw [lg_entry_eq]
  generalize (lg_sl ([.ref (ad 0)]) ++ List.replicate (1 - (lg_sl ([.ref (ad 0)])).length) Slot.unset).toArray = ls at hl ⊢
  have hl : lv_has ls 1 [(0, .ref (ad 0))] := hl
  refine lv_aload_n hx hb dX1_clear_0 rfl (lv_at hl 0 rfl) ?_
  refine lv_iconst (v := 0) hx hb dX1_clear_1 (by decide) ?_
  refine va_put (D := (dC, dI)) (ci := 1) (v := .int 0) (ty := .int) (C := RX1) (T := TX1) (N := 12) hx hb hts hin0 tyX1 tyX1_ok nmX1 hown hK hP hD hS 0 rfl rfl 0 (by decide) fl_28 (fun _ h9 => h9) rfl (by decide +kernel) rfl rfl (Nat.le_of_ble_eq_true rfl) dX1_clear_2 (fun H locs hP hD hS => ?_)
  have hP : va_P (dC, dI) vwCl (md ca ad 0 t k v n nw w kd ln hd so fq) H := hP
  have hD : va_D A (md ca ad 0 t k v n nw w kd ln hd so fq) := hD
  refine lv_aload_n hx hb dX1_clear_5 rfl (lv_at hl 0 rfl) ?_
  refine lv_iconst (v := 0) hx hb dX1_clear_6 (by decide) ?_
  refine va_put (D := (dC, dI)) (ci := 1) (v := .int 0) (ty := .int) (C := RX1) (T := TX1) (N := 12) hx hb hts hin0 tyX1 tyX1_ok nmX1 hown hK hP hD hS 0 rfl rfl 1 (by decide) fl_32 (fun _ h9 => h9) rfl (by decide +kernel) rfl rfl (Nat.le_of_ble_eq_true rfl) dX1_clear_7 (fun H locs hP hD hS => ?_)
  have hP : va_P (dC, dI) vwCl (md ca ad 0 t k v 0 nw w kd ln hd so fq) H := hP
  have hD : va_D A (md ca ad 0 t k v 0 nw w kd ln hd so fq) := hD
  refine lv_aload_n hx hb dX1_clear_10 rfl (lv_at hl 0 rfl) ?_
  refine lv_iconst (v := 0) hx hb dX1_clear_11 (by decide) ?_
  refine va_put (D := (dC, dI)) (ci := 1) (v := .int 0) (ty := .int) (C := RX1) (T := TX1) (N := 12) hx hb hts hin0 tyX1 tyX1_ok nmX1 hown hK hP hD hS 0 rfl rfl 5 (by decide) fl_35 (fun _ h9 => h9) rfl (by decide +kernel) rfl rfl (Nat.le_of_ble_eq_true rfl) dX1_clear_12 (fun H locs hP hD hS => ?_)
  have hP : va_P (dC, dI) vwCl (md ca ad 0 t k v 0 0 w kd ln hd so fq) H := hP
  have hD : va_D A (md ca ad 0 t k v 0 0 w kd ln hd so fq) := hD
  refine lv_aload_n hx hb dX1_clear_15 rfl (lv_at hl 0 rfl) ?_
  refine lv_iconst (v := 0) hx hb dX1_clear_16 (by decide) ?_
  refine va_put (D := (dC, dI)) (ci := 1) (v := .int 0) (ty := .int) (C := RX1) (T := TX1) (N := 12) hx hb hts hin0 tyX1 tyX1_ok nmX1 hown hK hP hD hS 0 rfl rfl 6 (by decide) fl_38 (fun _ h9 => h9) rfl (by decide +kernel) rfl rfl (Nat.le_of_ble_eq_true rfl) dX1_clear_17 (fun H locs hP hD hS => ?_)
  have hP : va_P (dC, dI) vwCl (md ca ad 0 t k v 0 0 0 kd ln hd so fq) H := hP
  have hD : va_D A (md ca ad 0 t k v 0 0 0 kd ln hd so fq) := hD
  exact W.vret hx hb hr (fun t9 ht hW => ⟨⟨(), rfl, trivial, by rw [ht]; exact hP, va_K.moved hW.alike hK, hD⟩, hS.F ht⟩) hS.2.2 dX1_clear_20

set_option maxRecDepth 100000 in
set_option maxHeartbeats 4000000 in
/-- now() -/
theorem m_now (l : Launch) (dC : Nat → ClassId) (dI : Nat → Nat → Nat) (ca : Nat → ClassId) (ad : Nat → Nat) (sz : Nat) (th : Int32) (t : Nat → Int32) (k : Nat → Nat) (v : Nat → Int32) (n : Nat) (nw : Int32) (w : Nat) (kd : Nat → Int32) (ln : Nat → Int32) (hd : Nat) (so : Nat → Int32) (fq : Nat)  : Met l yX1_now wsX1_now ({ frames := 0, cells := 0, slots := 0, locals := 0 }) (va_Pc [.ref (ad 0)] (mdPre dC dI ca ad sz th t k v n nw w kd ln hd so fq)) (va_Qi (fun (r : Int32) (_ : Unit) => r = nw) (fun _ t9 => mdAt dC dI ca ad (va_A (md ca ad th t k v n nw w kd ln hd so fq) sz) 0 t k v n nw w kd ln hd so fq t9) (va_A (md ca ad th t k v n nw w kd ln hd so fq) sz)) 0 0 (va_A (md ca ad th t k v n nw w kd ln hd so fq) sz) := by
  refine Met.ofW (cc := cX1_now) (maxL := 1) (ret := (some .int)) (by decide) rfl ?_
  intro p e s m args below meth c s₁ B hml hv
  obtain ⟨rfl, hsz, hP, hK, hD0⟩ := hv
  have hx := B.exec
  have hb := B.bytes
  have hr := B.returns
  have hts := atoms_spec (ws := wsX1_now) B.pre
  have hown : s.vm.findClass RX1 = some m.cls := findClass_of_methodNamed B.named
  have hlocks := B.notSynchronized
  subst hsz
  have hin0 : ∀ w ∈ u_ws RX1 TX1 12, w ∈ wsX1_now := fun w h => List.mem_cons_of_mem _ (wiX1 w h)
  have fl_28 := hts _ (List.mem_cons_of_mem _ flX1_28)
  have fl_35 := hts _ (List.mem_cons_of_mem _ flX1_35)
  have hD := hD0.self (sz := s.heap.size)
  generalize hAe : va_A (md ca ad th t k v n nw w kd ln hd so fq) s.heap.size = A at hD ⊢
  have hA : ∀ q : Nat, s.heap.size ≤ q → A q := fun q h => by rw [← hAe]; exact Or.inr h
  have hS : va_S A s.heap s.heap [] := va_S.rf
  have hl := lv_entry ([.ref (ad 0)]) (n := 1) (Nat.le_of_ble_eq_true rfl)
  rw [lg_entry_eq]
  generalize (lg_sl ([.ref (ad 0)]) ++ List.replicate (1 - (lg_sl ([.ref (ad 0)])).length) Slot.unset).toArray = ls at hl ⊢
  have hl : lv_has ls 1 [(0, .ref (ad 0))] := hl
  refine lv_aload_n hx hb dX1_now_0 rfl (lv_at hl 0 rfl) ?_
  refine lv_iconst (v := 0) hx hb dX1_now_1 (by decide) ?_
  refine va_put (D := (dC, dI)) (ci := 1) (v := .int 0) (ty := .int) (C := RX1) (T := TX1) (N := 12) hx hb hts hin0 tyX1 tyX1_ok nmX1 hown hK hP hD hS 0 rfl rfl 0 (by decide) fl_28 (fun _ h9 => h9) rfl (by decide +kernel) rfl rfl (Nat.le_of_ble_eq_true rfl) dX1_now_2 (fun H locs hP hD hS => ?_)
  have hP : va_P (dC, dI) vwCl (md ca ad 0 t k v n nw w kd ln hd so fq) H := hP
  have hD : va_D A (md ca ad 0 t k v n nw w kd ln hd so fq) := hD
  refine lv_aload_n hx hb dX1_now_5 rfl (lv_at hl 0 rfl) ?_
  refine va_get (D := (dC, dI)) (ci := 1) (v := .int nw) (C := RX1) (T := TX1) (N := 12) hx hb hts hin0 hown hK hP 0 rfl rfl 5 (by decide) fl_35 (fun _ h9 => h9) rfl dX1_now_6 ?_
  exact W.iret (v := nw) hx hb hr (fun t9 ht hW => ⟨⟨_, (), rfl, rfl, by rw [ht]; exact hP, va_K.moved hW.alike hK, hD⟩, hS.F ht⟩) hS.2.2 dX1_now_9

set_option maxRecDepth 100000 in
set_option maxHeartbeats 4000000 in
/-- refuse(first, second) -/
theorem m_refuse (l : Launch) (dC : Nat → ClassId) (dI : Nat → Nat → Nat) (ca : Nat → ClassId) (ad : Nat → Nat) (sz : Nat) (th : Int32) (t : Nat → Int32) (k : Nat → Nat) (v : Nat → Int32) (n : Nat) (nw : Int32) (w : Nat) (kd : Nat → Int32) (ln : Nat → Int32) (hd : Nat) (so : Nat → Int32) (fq : Nat) (p1 p2 : Int32)  : Met l yX1_refuse wsX1_refuse ({ frames := 0, cells := 0, slots := 0, locals := 0 }) (va_Pc [.ref (ad 0), .int p1, .int p2] (mdPre dC dI ca ad sz th t k v n nw w kd ln hd so fq)) (va_Qi (fun (r : Int32) (_ : Unit) => qc_mk r (¬ (p1 = 0 ∧ p2 = 0))) (fun _ t9 => mdAt dC dI ca ad (va_A (md ca ad th t k v n nw w kd ln hd so fq) sz) (mr_th p1 p2) t k v n nw w kd ln hd so fq t9) (va_A (md ca ad th t k v n nw w kd ln hd so fq) sz)) 0 0 (va_A (md ca ad th t k v n nw w kd ln hd so fq) sz) := by
  refine Met.ofW (cc := cX1_refuse) (maxL := 3) (ret := (some .boolean)) (by decide) rfl ?_
  intro p e s m args below meth c s₁ B hml hv
  obtain ⟨rfl, hsz, hP, hK, hD0⟩ := hv
  have hx := B.exec
  have hb := B.bytes
  have hr := B.returns
  have hts := atoms_spec (ws := wsX1_refuse) B.pre
  have hown : s.vm.findClass RX1 = some m.cls := findClass_of_methodNamed B.named
  have hlocks := B.notSynchronized
  subst hsz
  have hin0 : ∀ w ∈ u_ws RX1 TX1 12, w ∈ wsX1_refuse := fun w h => List.mem_cons_of_mem _ (wiX1 w h)
  have fl_28 := hts _ (List.mem_cons_of_mem _ flX1_28)
  have hD := hD0.self (sz := s.heap.size)
  generalize hAe : va_A (md ca ad th t k v n nw w kd ln hd so fq) s.heap.size = A at hD ⊢
  have hA : ∀ q : Nat, s.heap.size ≤ q → A q := fun q h => by rw [← hAe]; exact Or.inr h
  have hS : va_S A s.heap s.heap [] := va_S.rf
  have hl := lv_entry ([.ref (ad 0), .int p1, .int p2]) (n := 3) (Nat.le_of_ble_eq_true rfl)
  rw [lg_entry_eq]
  generalize (lg_sl ([.ref (ad 0), .int p1, .int p2]) ++ List.replicate (3 - (lg_sl ([.ref (ad 0), .int p1, .int p2])).length) Slot.unset).toArray = ls at hl ⊢
  have hl : lv_has ls 3 [(0, .ref (ad 0)), (1, .int p1), (2, .int p2)] := hl
  refine lv_aload_n hx hb dX1_refuse_0 rfl (lv_at hl 0 rfl) ?_
  refine lv_iload_n hx hb dX1_refuse_1 rfl (lv_at hl 1 rfl) ?_
  refine lv_if_eq (tgt := 9) hx hb dX1_refuse_2 (by decide) (fun c_1 => ?_) (fun c_1 => ?_)
  · refine lv_iload_n hx hb dX1_refuse_9 rfl (lv_at hl 2 rfl) ?_
    refine lv_if_eq (tgt := 17) hx hb dX1_refuse_10 (by decide) (fun c_2 => ?_) (fun c_2 => ?_)
    · refine lv_iconst (v := 0) hx hb dX1_refuse_17 (by decide) ?_
      refine W.eq (g2 := F0 m 18 ls [.int (mr_th p1 p2), .ref (ad 0)]) (by rw [mr_th, if_pos c_1, if_pos c_2]) ?_
      refine va_put (D := (dC, dI)) (ci := 1) (v := .int (mr_th p1 p2)) (ty := .int) (C := RX1) (T := TX1) (N := 12) hx hb hts hin0 tyX1 tyX1_ok nmX1 hown hK hP hD hS 0 rfl rfl 0 (by decide) fl_28 (fun _ h9 => h9) rfl (by decide +kernel) rfl rfl (Nat.le_of_ble_eq_true rfl) dX1_refuse_18 (fun H locs hP hD hS => ?_)
      have hP : va_P (dC, dI) vwCl (md ca ad (mr_th p1 p2) t k v n nw w kd ln hd so fq) H := hP
      have hD : va_D A (md ca ad (mr_th p1 p2) t k v n nw w kd ln hd so fq) := hD
      refine lv_aload_n hx hb dX1_refuse_21 rfl (lv_at hl 0 rfl) ?_
      refine va_get (D := (dC, dI)) (ci := 1) (v := .int (mr_th p1 p2)) (C := RX1) (T := TX1) (N := 12) hx hb hts hin0 hown hK hP 0 rfl rfl 0 (by decide) fl_28 (fun _ h9 => h9) rfl dX1_refuse_22 ?_
      have hm9 := mr_pos p1 p2
      refine lv_if_le (tgt := 32) hx hb dX1_refuse_25 (by decide) (fun c_3 => ?_) (fun c_3 => ?_)
      · rw [if_pos c_3] at hm9
        refine lv_iconst (v := 0) hx hb dX1_refuse_32 (by decide) ?_
        exact W.zret (v := 0) hx hb hr (by decide) (fun t9 ht hW => ⟨⟨_, (), rfl, hm9, by rw [ht]; exact hP, va_K.moved hW.alike hK, hD⟩, hS.F ht⟩) hS.2.2 dX1_refuse_33
      · rw [if_neg c_3] at hm9
        refine lv_iconst (v := 1) hx hb dX1_refuse_28 (by decide) ?_
        refine lv_goto (tgt := 33) hx hb dX1_refuse_29 (by decide) ?_
        exact W.zret (v := 1) hx hb hr (by decide) (fun t9 ht hW => ⟨⟨_, (), rfl, hm9, by rw [ht]; exact hP, va_K.moved hW.alike hK, hD⟩, hS.F ht⟩) hS.2.2 dX1_refuse_33
    · refine lv_iconst (v := 2) hx hb dX1_refuse_13 (by decide) ?_
      refine lv_goto (tgt := 18) hx hb dX1_refuse_14 (by decide) ?_
      refine W.eq (g2 := F0 m 18 ls [.int (mr_th p1 p2), .ref (ad 0)]) (by rw [mr_th, if_pos c_1, if_neg c_2]) ?_
      refine va_put (D := (dC, dI)) (ci := 1) (v := .int (mr_th p1 p2)) (ty := .int) (C := RX1) (T := TX1) (N := 12) hx hb hts hin0 tyX1 tyX1_ok nmX1 hown hK hP hD hS 0 rfl rfl 0 (by decide) fl_28 (fun _ h9 => h9) rfl (by decide +kernel) rfl rfl (Nat.le_of_ble_eq_true rfl) dX1_refuse_18 (fun H locs hP hD hS => ?_)
      have hP : va_P (dC, dI) vwCl (md ca ad (mr_th p1 p2) t k v n nw w kd ln hd so fq) H := hP
      have hD : va_D A (md ca ad (mr_th p1 p2) t k v n nw w kd ln hd so fq) := hD
      refine lv_aload_n hx hb dX1_refuse_21 rfl (lv_at hl 0 rfl) ?_
      refine va_get (D := (dC, dI)) (ci := 1) (v := .int (mr_th p1 p2)) (C := RX1) (T := TX1) (N := 12) hx hb hts hin0 hown hK hP 0 rfl rfl 0 (by decide) fl_28 (fun _ h9 => h9) rfl dX1_refuse_22 ?_
      have hm9 := mr_pos p1 p2
      refine lv_if_le (tgt := 32) hx hb dX1_refuse_25 (by decide) (fun c_4 => ?_) (fun c_4 => ?_)
      · rw [if_pos c_4] at hm9
        refine lv_iconst (v := 0) hx hb dX1_refuse_32 (by decide) ?_
        exact W.zret (v := 0) hx hb hr (by decide) (fun t9 ht hW => ⟨⟨_, (), rfl, hm9, by rw [ht]; exact hP, va_K.moved hW.alike hK, hD⟩, hS.F ht⟩) hS.2.2 dX1_refuse_33
      · rw [if_neg c_4] at hm9
        refine lv_iconst (v := 1) hx hb dX1_refuse_28 (by decide) ?_
        refine lv_goto (tgt := 33) hx hb dX1_refuse_29 (by decide) ?_
        exact W.zret (v := 1) hx hb hr (by decide) (fun t9 ht hW => ⟨⟨_, (), rfl, hm9, by rw [ht]; exact hP, va_K.moved hW.alike hK, hD⟩, hS.F ht⟩) hS.2.2 dX1_refuse_33
  · refine lv_iconst (v := 1) hx hb dX1_refuse_5 (by decide) ?_
    refine lv_goto (tgt := 18) hx hb dX1_refuse_6 (by decide) ?_
    refine W.eq (g2 := F0 m 18 ls [.int (mr_th p1 p2), .ref (ad 0)]) (by rw [mr_th, if_neg c_1]) ?_
    refine va_put (D := (dC, dI)) (ci := 1) (v := .int (mr_th p1 p2)) (ty := .int) (C := RX1) (T := TX1) (N := 12) hx hb hts hin0 tyX1 tyX1_ok nmX1 hown hK hP hD hS 0 rfl rfl 0 (by decide) fl_28 (fun _ h9 => h9) rfl (by decide +kernel) rfl rfl (Nat.le_of_ble_eq_true rfl) dX1_refuse_18 (fun H locs hP hD hS => ?_)
    have hP : va_P (dC, dI) vwCl (md ca ad (mr_th p1 p2) t k v n nw w kd ln hd so fq) H := hP
    have hD : va_D A (md ca ad (mr_th p1 p2) t k v n nw w kd ln hd so fq) := hD
    refine lv_aload_n hx hb dX1_refuse_21 rfl (lv_at hl 0 rfl) ?_
    refine va_get (D := (dC, dI)) (ci := 1) (v := .int (mr_th p1 p2)) (C := RX1) (T := TX1) (N := 12) hx hb hts hin0 hown hK hP 0 rfl rfl 0 (by decide) fl_28 (fun _ h9 => h9) rfl dX1_refuse_22 ?_
    have hm9 := mr_pos p1 p2
    refine lv_if_le (tgt := 32) hx hb dX1_refuse_25 (by decide) (fun c_5 => ?_) (fun c_5 => ?_)
    · rw [if_pos c_5] at hm9
      refine lv_iconst (v := 0) hx hb dX1_refuse_32 (by decide) ?_
      exact W.zret (v := 0) hx hb hr (by decide) (fun t9 ht hW => ⟨⟨_, (), rfl, hm9, by rw [ht]; exact hP, va_K.moved hW.alike hK, hD⟩, hS.F ht⟩) hS.2.2 dX1_refuse_33
    · rw [if_neg c_5] at hm9
      refine lv_iconst (v := 1) hx hb dX1_refuse_28 (by decide) ?_
      refine lv_goto (tgt := 33) hx hb dX1_refuse_29 (by decide) ?_
      exact W.zret (v := 1) hx hb hr (by decide) (fun t9 ht hW => ⟨⟨_, (), rfl, hm9, by rw [ht]; exact hP, va_K.moved hW.alike hK, hD⟩, hS.F ht⟩) hS.2.2 dX1_refuse_33
