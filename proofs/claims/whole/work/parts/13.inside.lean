/-- markLastOfKey: a tuple of another key is passed over -/
theorem qm_no {f g : Nat → Int32} {k : Nat → Nat} {kk r n : Nat} {P : Nat → Prop} (hf : ∀ j, j < n → (r + 1 ≤ j → k j = kk → qc_mk (f j) (P j)) ∧ (j < r + 1 ∨ ¬ k j = kk → f j = g j)) (h : ¬ k r = kk) : ∀ j, j < n → (r ≤ j → k j = kk → qc_mk (f j) (P j)) ∧ (j < r ∨ ¬ k j = kk → f j = g j) := by
  intro j hj
  refine ⟨fun g1 g2 => ?_, fun g1 => (hf j hj).2 (g1.elim (fun q => Or.inl (by omega)) Or.inr)⟩
  by_cases e : j = r
  · subst e; exact absurd g2 h
  · exact (hf j hj).1 (by omega) g2
/-- markLastOfKey: a tuple of the key is marked -/
theorem qm_key {f g : Nat → Int32} {k : Nat → Nat} {kk r n : Nat} {P : Nat → Prop} {x : Int32} (hf : ∀ j, j < n → (r + 1 ≤ j → k j = kk → qc_mk (f j) (P j)) ∧ (j < r + 1 ∨ ¬ k j = kk → f j = g j)) (h : k r = kk) (hx : qc_mk x (P r)) : ∀ j, j < n → (r ≤ j → k j = kk → qc_mk (upd f r x j) (P j)) ∧ (j < r ∨ ¬ k j = kk → upd f r x j = g j) := by
  intro j hj
  by_cases e : j = r
  · subst e
    refine ⟨fun _ _ => by rw [pk_us]; exact hx, fun q => q.elim (fun q => absurd q (Nat.lt_irrefl j)) (fun q => absurd h q)⟩
  · rw [pk_un e]
    exact ⟨fun g1 g2 => (hf j hj).1 (by omega) g2, fun q => (hf j hj).2 (q.elim (fun q => Or.inl (by omega)) Or.inr)⟩
theorem yt_out {x : Int32} (h0 : ¬ x = 0) (h1 : ¬ x = 1) (h2 : ¬ x = 2) (h3 : ¬ x = 3) (h4 : ¬ x = 4) : x.toInt < 0 ∨ 4 < x.toInt := by
  have k : ∀ c : Int32, ¬ x = c → ¬ x.toInt = c.toInt := fun c h q => h (Int32.toInt_inj.mp q)
  have k0 := k 0 h0
  have k1 := k 1 h1
  have k2 := k 2 h2
  have k3 := k 3 h3
  have k4 := k 4 h4
  have e0 : (0 : Int32).toInt = 0 := by decide
  have e1 : (1 : Int32).toInt = 1 := by decide
  have e2 : (2 : Int32).toInt = 2 := by decide
  have e3 : (3 : Int32).toInt = 3 := by decide
  have e4 : (4 : Int32).toInt = 4 := by decide
  omega
set_option maxRecDepth 100000 in
set_option maxHeartbeats 4000000 in
/-- markLastOfKey(key, n) -/
theorem c_markLastOfKey (l : Launch) (dC : Nat → ClassId) (dI : Nat → Nat → Nat) (ca : Nat → ClassId) (ad : Nat → Nat) (sz : Nat) (t : Nat → Int32) (k : Nat → Nat) (v : Nat → Int32) (b : Nat → Nat) (n : Nat) (kd : Nat → Int32) (ln : Nat → Int32) (w : Nat) (nw : Int32) (ins : Nat → Int32) (kk : Nat) (p2 : Int32) (hn : n ≤ 300) (hk8 : ∀ j, j < n → k j < 8) (hkk : kk < 8) : Met l yX0_markLastOfKey wsX0_markLastOfKey ({ frames := 0, cells := 0, slots := 0, locals := 0 }) (va_Pc [.ref (ad 0), .int (nI kk), .int p2] (wmPre dC dI ca ad sz t k v b n kd ln w nw ins)) (va_Qv (fun u : Nat → Int32 => ∀ j, j < n → (k j = kk → qc_mk (u j) (nI (qc_oc k (k j) (j + 1) n) < p2)) ∧ (¬ k j = kk → u j = ins j)) (fun u t9 => wmAt dC dI ca ad (va_A (wm ca ad t k v b n kd ln w nw ins) sz) t k v b n kd ln w nw u t9) (va_A (wm ca ad t k v b n kd ln w nw ins) sz)) 0 0 (va_A (wm ca ad t k v b n kd ln w nw ins) sz) := by
  refine Met.ofW (cc := cX0_markLastOfKey) (maxL := 5) (ret := none) (by decide) rfl ?_
  intro p e s m args below meth c s₁ B hml hv
  obtain ⟨rfl, hsz, hP, hK, hD0⟩ := hv
  have hx := B.exec
  have hb := B.bytes
  have hr := B.returns
  have hts := atoms_spec (ws := wsX0_markLastOfKey) B.pre
  have hown : s.vm.findClass RX0 = some m.cls := findClass_of_methodNamed B.named
  have hlocks := B.notSynchronized
  subst hsz
  have hin0 : ∀ w ∈ u_ws RX0 TX0 10, w ∈ wsX0_markLastOfKey := fun w h => List.mem_cons_of_mem _ (wiX0 w h)
  have fl_13 := hts _ (List.mem_cons_of_mem _ flX0_13)
  have fl_28 := hts _ (List.mem_cons_of_mem _ flX0_28)
  have fl_32 := hts _ (List.mem_cons_of_mem _ flX0_32)
  have hD := hD0.self (sz := s.heap.size)
  generalize hAe : va_A (wm ca ad t k v b n kd ln w nw ins) s.heap.size = A at hD ⊢
  have hA : ∀ q : Nat, s.heap.size ≤ q → A q := fun q h => by rw [← hAe]; exact Or.inr h
  have hS : va_S A s.heap s.heap [] := va_S.rf
  have hl := lv_entry ([.ref (ad 0), .int (nI kk), .int p2]) (n := 5) (Nat.le_of_ble_eq_true rfl)
  rw [lg_entry_eq]
  generalize (lg_sl ([.ref (ad 0), .int (nI kk), .int p2]) ++ List.replicate (5 - (lg_sl ([.ref (ad 0), .int (nI kk), .int p2])).length) Slot.unset).toArray = ls at hl ⊢
  have hl : lv_has ls 5 [(0, .ref (ad 0)), (1, .int (nI kk)), (2, .int p2)] := hl
  refine lv_iconst (v := 0) hx hb dX0_markLastOfKey_0 (by decide) ?_
  refine lv_istore_n (lv' := [(3, .int 0), (0, .ref (ad 0)), (1, .int (nI kk)), (2, .int p2)]) hx hb dX0_markLastOfKey_1 rfl hl (by decide) rfl (fun ls hl => ?_)
  refine lv_aload_n hx hb dX0_markLastOfKey_2 rfl (lv_at hl 1 rfl) ?_
  refine va_get (D := (dC, dI)) (ci := 0) (v := .int (nI n)) (C := RX0) (T := TX0) (N := 10) hx hb hts hin0 hown hK hP 0 rfl rfl 4 (by decide) fl_32 (fun _ h9 => h9) rfl dX0_markLastOfKey_3 ?_
  refine lv_iconst (v := 1) hx hb dX0_markLastOfKey_6 (by decide) ?_
  refine lv_isub hx hb dX0_markLastOfKey_7 ?_
  refine lv_istore (lv' := [(4, .int ((nI n) - 1)), (3, .int 0), (0, .ref (ad 0)), (1, .int (nI kk)), (2, .int p2)]) hx hb dX0_markLastOfKey_8 hl (by decide) rfl (fun ls hl => ?_)
  have loop : ∀ (r : Nat), r ≤ n → ∀ (c0 : Nat) (f : Nat → Int32) (H : Heap) (locs : List Loc), va_P (dC, dI) vwCl (wm ca ad t k v b n kd ln w nw f) H → va_D A (wm ca ad t k v b n kd ln w nw f) → va_S A s.heap H locs → (c0 = qc_oc k kk r n) → (∀ j, j < n → (r ≤ j → k j = kk → qc_mk (f j) (nI (qc_oc k (k j) (j + 1) n) < p2)) ∧ (j < r ∨ ¬ k j = kk → f j = ins j)) → ∀ (ls : Array Slot), lv_has ls 5 [(0, .ref (ad 0)), (1, .int (nI kk)), (2, .int p2), (3, .int (nI c0)), (4, .int (nI r - 1))] → W p l e (headSpec wsX0_markLastOfKey ({ frames := 0, cells := 0, slots := 0, locals := 0 })).room s m ([.ref (ad 0), .int (nI kk), .int p2] : List Value).toArray below meth c H locs 0 0 (MQ below (va_Qv (fun u : Nat → Int32 => ∀ j, j < n → (k j = kk → qc_mk (u j) (nI (qc_oc k (k j) (j + 1) n) < p2)) ∧ (¬ k j = kk → u j = ins j)) (fun u t9 => wmAt dC dI ca ad A t k v b n kd ln w nw u t9) A) ([.ref (ad 0), .int (nI kk), .int p2] : List Value).toArray s 0 0 A) (F0 m 10 ls []) := by
    intro r
    induction r with
    | zero =>
      intro hi c0 f H locs hP hD hS hc hf ls hl
      refine lv_iload hx hb dX0_markLastOfKey_10 (lv_at hl 4 rfl) ?_
      refine lv_if_lt (tgt := 52) hx hb dX0_markLastOfKey_12 (by decide) (fun c_1 => ?_) (fun c_1 => ?_)
      · exact W.vret hx hb hr (fun t9 ht hW => ⟨⟨f, rfl, fun j hj => ⟨fun e => (hf j hj).1 (Nat.zero_le j) e, fun e => (hf j hj).2 (Or.inr e)⟩, by rw [ht]; exact hP, va_K.moved hW.alike hK, hD⟩, hS.F ht⟩) hS.2.2 dX0_markLastOfKey_52
      · exact absurd (by decide) c_1
    | succ r ih =>
      intro hi c0 f H locs hP hD hS hc hf ls hl
      rw [nI_pred] at hl
      refine lv_iload hx hb dX0_markLastOfKey_10 (lv_at hl 4 rfl) ?_
      refine lv_if_lt (tgt := 52) hx hb dX0_markLastOfKey_12 (by decide) (fun c_2 => ?_) (fun c_2 => ?_)
      · exact absurd c_2 (nI_pos (by omega))
      · refine lv_aload_n hx hb dX0_markLastOfKey_15 rfl (lv_at hl 0 rfl) ?_
        refine va_get (D := (dC, dI)) (ci := 0) (v := .ref (ad 2)) (C := RX0) (T := TX0) (N := 10) hx hb hts hin0 hown hK hP 0 rfl rfl 1 (by decide) fl_13 (fun _ h9 => h9) rfl dX0_markLastOfKey_16 ?_
        refine lv_iload hx hb dX0_markLastOfKey_19 (lv_at hl 4 rfl) ?_
        refine ya_iald hx hb hK hP 2 1 rfl rfl (j := r) (by omega) (by decide) dX0_markLastOfKey_21 ?_
        refine lv_iload_n hx hb dX0_markLastOfKey_22 rfl (lv_at hl 1 rfl) ?_
        refine yb_ne (tgt := 46) (Nat.lt_trans (hk8 r (by omega)) (by decide)) (Nat.lt_trans hkk (by decide)) hx hb dX0_markLastOfKey_23 (by decide) (fun c_3 => ?_) (fun c_3 => ?_)
        · refine lv_iinc (v := (nI r - 1)) (lv' := [(4, .int (nI r - 1)), (0, .ref (ad 0)), (1, .int (nI kk)), (2, .int p2), (3, .int (nI c0))]) hx hb dX0_markLastOfKey_46 hl (k := 4) rfl (yn_dm _) (by decide) rfl (fun ls hl => ?_)
          refine lv_goto (tgt := 10) hx hb dX0_markLastOfKey_49 (by decide) ?_
          exact ih (by omega) c0 _ _ _ hP hD hS (by rw [hc, qc_oc_down k kk r n (by omega), if_neg c_3]; rfl) (qm_no (P := fun j => nI (qc_oc k (k j) (j + 1) n) < p2) hf c_3) ls (lv_sub hl [1, 2, 3, 4, 0] rfl)
        · refine lv_aload_n hx hb dX0_markLastOfKey_26 rfl (lv_at hl 0 rfl) ?_
          refine va_get (D := (dC, dI)) (ci := 0) (v := .ref (ad 7)) (C := RX0) (T := TX0) (N := 10) hx hb hts hin0 hown hK hP 0 rfl rfl 9 (by decide) fl_28 (fun _ h9 => h9) rfl dX0_markLastOfKey_27 ?_
          refine lv_iload hx hb dX0_markLastOfKey_30 (lv_at hl 4 rfl) ?_
          refine lv_iload_n hx hb dX0_markLastOfKey_32 rfl (lv_at hl 3 rfl) ?_
          refine lv_iload_n hx hb dX0_markLastOfKey_33 rfl (lv_at hl 2 rfl) ?_
          refine lv_icmp_ge (tgt := 41) hx hb dX0_markLastOfKey_34 (by decide) (fun c_4 => ?_) (fun c_4 => ?_)
          · have hmk : qc_mk 0 (nI (qc_oc k (k r) (r + 1) n) < p2) := qc_mk0 (by rw [c_3, ← hc]; exact Int32.not_lt.mpr c_4)
            refine lv_iconst (v := 0) hx hb dX0_markLastOfKey_41 (by decide) ?_
            refine ya_zast hx hb hK hP hD hS 7 6 rfl rfl (j := r) (by omega) (by decide) yn_z0 dX0_markLastOfKey_42 (fun H locs hP hD hS => ?_)
            have hP : va_P (dC, dI) vwCl (wm ca ad t k v b n kd ln w nw (upd f r 0)) H := hP
            have hD : va_D A (wm ca ad t k v b n kd ln w nw (upd f r 0)) := hD
            refine lv_iinc (v := (nI (c0 + 1))) (lv' := [(3, .int (nI (c0 + 1))), (0, .ref (ad 0)), (1, .int (nI kk)), (2, .int p2), (4, .int (nI r))]) hx hb dX0_markLastOfKey_43 hl (k := 3) rfl (yn_inc _) (by decide) rfl (fun ls hl => ?_)
            refine lv_iinc (v := (nI r - 1)) (lv' := [(4, .int (nI r - 1)), (3, .int (nI (c0 + 1))), (0, .ref (ad 0)), (1, .int (nI kk)), (2, .int p2)]) hx hb dX0_markLastOfKey_46 hl (k := 4) rfl (yn_dm _) (by decide) rfl (fun ls hl => ?_)
            refine lv_goto (tgt := 10) hx hb dX0_markLastOfKey_49 (by decide) ?_
            exact ih (by omega) (c0 + 1) _ _ _ hP hD hS (by rw [hc, qc_oc_down k kk r n (by omega), if_pos c_3]) (qm_key (P := fun j => nI (qc_oc k (k j) (j + 1) n) < p2) hf c_3 hmk) ls (lv_sub hl [2, 3, 4, 1, 0] rfl)
          · have hmk : qc_mk 1 (nI (qc_oc k (k r) (r + 1) n) < p2) := qc_mk1 (by rw [c_3, ← hc]; exact Int32.not_le.mp c_4)
            refine lv_iconst (v := 1) hx hb dX0_markLastOfKey_37 (by decide) ?_
            refine lv_goto (tgt := 42) hx hb dX0_markLastOfKey_38 (by decide) ?_
            refine ya_zast hx hb hK hP hD hS 7 6 rfl rfl (j := r) (by omega) (by decide) yn_z1 dX0_markLastOfKey_42 (fun H locs hP hD hS => ?_)
            have hP : va_P (dC, dI) vwCl (wm ca ad t k v b n kd ln w nw (upd f r 1)) H := hP
            have hD : va_D A (wm ca ad t k v b n kd ln w nw (upd f r 1)) := hD
            refine lv_iinc (v := (nI (c0 + 1))) (lv' := [(3, .int (nI (c0 + 1))), (0, .ref (ad 0)), (1, .int (nI kk)), (2, .int p2), (4, .int (nI r))]) hx hb dX0_markLastOfKey_43 hl (k := 3) rfl (yn_inc _) (by decide) rfl (fun ls hl => ?_)
            refine lv_iinc (v := (nI r - 1)) (lv' := [(4, .int (nI r - 1)), (3, .int (nI (c0 + 1))), (0, .ref (ad 0)), (1, .int (nI kk)), (2, .int p2)]) hx hb dX0_markLastOfKey_46 hl (k := 4) rfl (yn_dm _) (by decide) rfl (fun ls hl => ?_)
            refine lv_goto (tgt := 10) hx hb dX0_markLastOfKey_49 (by decide) ?_
            exact ih (by omega) (c0 + 1) _ _ _ hP hD hS (by rw [hc, qc_oc_down k kk r n (by omega), if_pos c_3]) (qm_key (P := fun j => nI (qc_oc k (k j) (j + 1) n) < p2) hf c_3 hmk) ls (lv_sub hl [2, 3, 4, 1, 0] rfl)
  exact loop n (Nat.le_refl n) 0 _ _ _ hP hD hS (qc_oc_none k kk n n (Nat.le_refl n)).symm (fun j hj => ⟨fun g => absurd g (by omega), fun _ => rfl⟩) ls (lv_sub hl [2, 3, 4, 1, 0] rfl)

set_option maxRecDepth 100000 in
set_option maxHeartbeats 4000000 in
/-- markKeys(n) -/
theorem c_markKeys (l : Launch) (dC : Nat → ClassId) (dI : Nat → Nat → Nat) (ca : Nat → ClassId) (ad : Nat → Nat) (sz : Nat) (t : Nat → Int32) (k : Nat → Nat) (v : Nat → Int32) (b : Nat → Nat) (n : Nat) (kd : Nat → Int32) (ln : Nat → Int32) (w : Nat) (nw : Int32) (ins : Nat → Int32) (p1 : Int32) (hn : n ≤ 300) (hk8 : ∀ j, j < n → k j < 8) : Met l yX0_markKeys wsX0_markKeys ({ frames := 1, cells := 0, slots := 0, locals := 24 }) (va_Pc [.ref (ad 0), .int p1] (wmPre dC dI ca ad sz t k v b n kd ln w nw ins)) (va_Qv (fun u : Nat → Int32 => ∀ j, j < n → qc_mk (u j) (nI (qc_oc k (k j) (j + 1) n) < p1)) (fun u t9 => wmAt dC dI ca ad (va_A (wm ca ad t k v b n kd ln w nw ins) sz) t k v b n kd ln w nw u t9) (va_A (wm ca ad t k v b n kd ln w nw ins) sz)) 0 0 (va_A (wm ca ad t k v b n kd ln w nw ins) sz) := by
  refine Met.ofW (cc := cX0_markKeys) (maxL := 3) (ret := none) (by decide) rfl ?_
  intro p e s m args below meth c s₁ B hml hv
  obtain ⟨rfl, hsz, hP, hK, hD0⟩ := hv
  have hx := B.exec
  have hb := B.bytes
  have hr := B.returns
  have hts := atoms_spec (ws := wsX0_markKeys) B.pre
  have hown : s.vm.findClass RX0 = some m.cls := findClass_of_methodNamed B.named
  have hlocks := B.notSynchronized
  subst hsz
  have hD := hD0.self (sz := s.heap.size)
  generalize hAe : va_A (wm ca ad t k v b n kd ln w nw ins) s.heap.size = A at hD ⊢
  have hA : ∀ q : Nat, s.heap.size ≤ q → A q := fun q h => by rw [← hAe]; exact Or.inr h
  have hS : va_S A s.heap s.heap [] := va_S.rf
  have hl := lv_entry ([.ref (ad 0), .int p1]) (n := 3) (Nat.le_of_ble_eq_true rfl)
  rw [lg_entry_eq]
  generalize (lg_sl ([.ref (ad 0), .int p1]) ++ List.replicate (3 - (lg_sl ([.ref (ad 0), .int p1])).length) Slot.unset).toArray = ls at hl ⊢
  have hl : lv_has ls 3 [(0, .ref (ad 0)), (1, .int p1)] := hl
  refine lv_iconst (v := 0) hx hb dX0_markKeys_0 (by decide) ?_
  refine lv_istore_n (lv' := [(2, .int 0), (0, .ref (ad 0)), (1, .int p1)]) hx hb dX0_markKeys_1 rfl hl (by decide) rfl (fun ls hl => ?_)
  have loop : ∀ (d kk : Nat), kk ≤ 8 → 8 + 1 ≤ kk + d → ∀ (f : Nat → Int32) (H : Heap) (locs : List Loc), va_P (dC, dI) vwCl (wm ca ad t k v b n kd ln w nw f) H → va_D A (wm ca ad t k v b n kd ln w nw f) → va_S A s.heap H locs → (∀ j, j < n → k j < kk → qc_mk (f j) (nI (qc_oc k (k j) (j + 1) n) < p1)) → ∀ (ls : Array Slot), lv_has ls 3 [(0, .ref (ad 0)), (1, .int p1), (2, .int (nI kk))] → W p l e (headSpec wsX0_markKeys ({ frames := 1, cells := 0, slots := 0, locals := 24 })).room s m ([.ref (ad 0), .int p1] : List Value).toArray below meth c H locs 0 0 (MQ below (va_Qv (fun u : Nat → Int32 => ∀ j, j < n → qc_mk (u j) (nI (qc_oc k (k j) (j + 1) n) < p1)) (fun u t9 => wmAt dC dI ca ad A t k v b n kd ln w nw u t9) A) ([.ref (ad 0), .int p1] : List Value).toArray s 0 0 A) (F0 m 2 ls []) := by
    intro d
    induction d with
    | zero =>
      intro kk hi hfu
      exact absurd hfu (by omega)
    | succ d ih =>
      intro kk hi hfu f H locs hP hD hS hf ls hl
      refine lv_iload_n hx hb dX0_markKeys_2 rfl (lv_at hl 2 rfl) ?_
      refine lv_bipush (v := 8) hx hb dX0_markKeys_3 (by decide) ?_
      refine yb_ge (tgt := 20) (n := 8) (by omega) (by decide) hx hb dX0_markKeys_5 (by decide) (fun c_1 => ?_) (fun c_1 => ?_)
      · exact W.vret hx hb hr (fun t9 ht hW => ⟨⟨f, rfl, fun j hj => hf j hj (Nat.lt_of_lt_of_le (hk8 j hj) c_1), by rw [ht]; exact hP, va_K.moved hW.alike hK, hD⟩, hS.F ht⟩) hS.2.2 dX0_markKeys_20
      · refine lv_aload_n hx hb dX0_markKeys_8 rfl (lv_at hl 0 rfl) ?_
        refine lv_iload_n hx hb dX0_markKeys_9 rfl (lv_at hl 2 rfl) ?_
        refine lv_iload_n hx hb dX0_markKeys_10 rfl (lv_at hl 1 rfl) ?_
        have hFc := va_free (wc := wm ca ad t k v b n kd ln w nw f) hD hS hA [0, 1, 2, 3, 4, 5, 6, 7] rfl
        refine va_callv (va_runV (As := [.int (nI kk), .int p1]) (rest := []) ⟨hx, hb, hml, hown, hts⟩ (c_markLastOfKey l dC dI ca ad _ t k v b n kd ln w nw f kk p1  hn hk8 c_1) (cwV 2 hts (gg_V mlX0_127 imX0_markLastOfKey seX0_markLastOfKey in_WindowMeters kwX0_markLastOfKey) rfl rfl rfl (by decide +kernel) ⟨Nat.le_of_ble_eq_true rfl, Nat.le_of_ble_eq_true rfl⟩) (wm_preV hK hP hD [.int (nI kk), .int p1]) rfl rfl hl.1 rfl (lv_room (Nat.le_of_ble_eq_true rfl)) dX0_markKeys_11 ⟨Nat.le_of_ble_eq_true rfl, Nat.le_of_ble_eq_true rfl⟩) hS (fun q _ h => hFc q h) hFc (fun u9 t9 H1 locs ht9 hvm hw_2 hB hz1 hk1 hS => ?_)
        obtain ⟨hP, -, hD1⟩ := hB
        rw [ht9] at hP
        have hD := hD1.weaken (fun k q hk h => hFc q.1 h)
        generalize H1 = H at hP hS ⊢
        have hP : va_P (dC, dI) vwCl (wm ca ad t k v b n kd ln w nw u9) H := hP
        have hD : va_D A (wm ca ad t k v b n kd ln w nw u9) := hD
        refine lv_iinc (v := (nI (kk + 1))) (lv' := [(2, .int (nI (kk + 1))), (0, .ref (ad 0)), (1, .int p1)]) hx hb dX0_markKeys_14 hl (k := 2) rfl (yn_inc _) (by decide) rfl (fun ls hl => ?_)
        refine lv_goto (tgt := 2) hx hb dX0_markKeys_17 (by decide) ?_
        exact ih (kk + 1) (by omega) (by omega) _ _ _ hP hD hS (fun j hj g1 => by
          by_cases g2 : k j = kk
          · exact (hw_2 j hj).1 g2
          · rw [(hw_2 j hj).2 g2]; exact hf j hj (by omega)) ls (lv_sub hl [1, 2, 0] rfl)
  exact loop 9 0 (Nat.zero_le 8) (by omega) _ _ _ hP hD hS (fun j _ g1 => absurd g1 (Nat.not_lt_zero _)) ls (lv_sub hl [1, 2, 0] rfl)

set_option maxRecDepth 100000 in
set_option maxHeartbeats 4000000 in
/-- markInside(w) -/
theorem c_markInside (l : Launch) (dC : Nat → ClassId) (dI : Nat → Nat → Nat) (ca : Nat → ClassId) (ad : Nat → Nat) (sz : Nat) (t : Nat → Int32) (k : Nat → Nat) (v : Nat → Int32) (b : Nat → Nat) (n : Nat) (kd : Nat → Int32) (ln : Nat → Int32) (w : Nat) (nw : Int32) (ins : Nat → Int32) (wi : Nat) (hn : n ≤ 300) (hk8 : ∀ j, j < n → k j < 8) (hwi : wi < 6) : Met l yX0_markInside wsX0_markInside ({ frames := 2, cells := 0, slots := 0, locals := 46 }) (va_Pc [.ref (ad 0), .int (nI wi)] (wmPre dC dI ca ad sz t k v b n kd ln w nw ins)) (va_Qv (fun u : Nat → Int32 => ∀ j, j < n → qc_mk (u j) (qc_in t k n nw (kd wi) (ln wi) j)) (fun u t9 => wmAt dC dI ca ad (va_A (wm ca ad t k v b n kd ln w nw ins) sz) t k v b n kd ln w nw u t9) (va_A (wm ca ad t k v b n kd ln w nw ins) sz)) 0 0 (va_A (wm ca ad t k v b n kd ln w nw ins) sz) := by
  refine Met.ofW (cc := cX0_markInside) (maxL := 3) (ret := none) (by decide) rfl ?_
  intro p e s m args below meth c s₁ B hml hv
  obtain ⟨rfl, hsz, hP, hK, hD0⟩ := hv
  have hx := B.exec
  have hb := B.bytes
  have hr := B.returns
  have hts := atoms_spec (ws := wsX0_markInside) B.pre
  have hown : s.vm.findClass RX0 = some m.cls := findClass_of_methodNamed B.named
  have hlocks := B.notSynchronized
  subst hsz
  have hin0 : ∀ w ∈ u_ws RX0 TX0 10, w ∈ wsX0_markInside := fun w h => List.mem_cons_of_mem _ (wiX0 w h)
  have fl_22 := hts _ (List.mem_cons_of_mem _ flX0_22)
  have fl_25 := hts _ (List.mem_cons_of_mem _ flX0_25)
  have hD := hD0.self (sz := s.heap.size)
  generalize hAe : va_A (wm ca ad t k v b n kd ln w nw ins) s.heap.size = A at hD ⊢
  have hA : ∀ q : Nat, s.heap.size ≤ q → A q := fun q h => by rw [← hAe]; exact Or.inr h
  have hS : va_S A s.heap s.heap [] := va_S.rf
  have hl := lv_entry ([.ref (ad 0), .int (nI wi)]) (n := 3) (Nat.le_of_ble_eq_true rfl)
  rw [lg_entry_eq]
  generalize (lg_sl ([.ref (ad 0), .int (nI wi)]) ++ List.replicate (3 - (lg_sl ([.ref (ad 0), .int (nI wi)])).length) Slot.unset).toArray = ls at hl ⊢
  have hl : lv_has ls 3 [(0, .ref (ad 0)), (1, .int (nI wi))] := hl
  refine lv_aload_n hx hb dX0_markInside_0 rfl (lv_at hl 0 rfl) ?_
  refine va_get (D := (dC, dI)) (ci := 0) (v := .ref (ad 6)) (C := RX0) (T := TX0) (N := 10) hx hb hts hin0 hown hK hP 0 rfl rfl 6 (by decide) fl_25 (fun _ h9 => h9) rfl dX0_markInside_1 ?_
  refine lv_iload_n hx hb dX0_markInside_4 rfl (lv_at hl 1 rfl) ?_
  refine ya_iald hx hb hK hP 6 5 rfl rfl (j := wi) hwi (by decide) dX0_markInside_5 ?_
  refine lv_istore_n (lv' := [(2, .int (ln wi)), (0, .ref (ad 0)), (1, .int (nI wi))]) hx hb dX0_markInside_6 rfl hl (by decide) rfl (fun ls hl => ?_)
  refine lv_aload_n hx hb dX0_markInside_7 rfl (lv_at hl 1 rfl) ?_
  refine va_get (D := (dC, dI)) (ci := 0) (v := .ref (ad 5)) (C := RX0) (T := TX0) (N := 10) hx hb hts hin0 hown hK hP 0 rfl rfl 5 (by decide) fl_22 (fun _ h9 => h9) rfl dX0_markInside_8 ?_
  refine lv_iload_n hx hb dX0_markInside_11 rfl (lv_at hl 2 rfl) ?_
  refine ya_iald hx hb hK hP 5 4 rfl rfl (j := wi) hwi (by decide) dX0_markInside_12 ?_
  by_cases h0 : kd wi = 0
  · refine lv_tableIn (off := 35) (tgt := 48) hx hb dX0_markInside_13 (by rw [h0]; decide) (by rw [h0]; decide) (by rw [h0]; decide) (by decide) ?_
    refine lv_aload_n hx hb dX0_markInside_48 rfl (lv_at hl 1 rfl) ?_
    refine lv_iload_n hx hb dX0_markInside_49 rfl (lv_at hl 0 rfl) ?_
    have hFc := va_free (wc := wm ca ad t k v b n kd ln w nw ins) hD hS hA [0, 1, 2, 3, 4, 5, 6, 7] rfl
    refine va_callv (va_runV (As := [.int (ln wi)]) (rest := []) ⟨hx, hb, hml, hown, hts⟩ (c_markRange l dC dI ca ad _ t k v b n kd ln w nw ins  (ln wi) hn) (cwV 1 hts (gg_V mlX0_109 imX0_markRange seX0_markRange in_WindowMeters kwX0_markRange) rfl rfl rfl (by decide +kernel) ⟨Nat.le_of_ble_eq_true rfl, Nat.le_of_ble_eq_true rfl⟩) (wm_preV hK hP hD [.int (ln wi)]) rfl rfl hl.1 rfl (lv_room (Nat.le_of_ble_eq_true rfl)) dX0_markInside_50 ⟨Nat.le_of_ble_eq_true rfl, Nat.le_of_ble_eq_true rfl⟩) hS (fun q _ h => hFc q h) hFc (fun u9 t9 H1 locs ht9 hvm hw_1 hB hz1 hk1 hS => ?_)
    obtain ⟨hP, -, hD1⟩ := hB
    rw [ht9] at hP
    have hD := hD1.weaken (fun k q hk h => hFc q.1 h)
    generalize H1 = H at hP hS ⊢
    have hP : va_P (dC, dI) vwCl (wm ca ad t k v b n kd ln w nw u9) H := hP
    have hD : va_D A (wm ca ad t k v b n kd ln w nw u9) := hD
    refine lv_goto (tgt := 93) hx hb dX0_markInside_53 (by decide) ?_
    exact W.vret hx hb hr (fun t9 ht hW => ⟨⟨u9, rfl, fun j hj => by rw [qc_in, if_pos h0]; exact hw_1 j hj, by rw [ht]; exact hP, va_K.moved hW.alike hK, hD⟩, hS.F ht⟩) hS.2.2 dX0_markInside_93
  · skip
    by_cases h1 : kd wi = 1
    · refine lv_tableIn (off := 43) (tgt := 56) hx hb dX0_markInside_13 (by rw [h1]; decide) (by rw [h1]; decide) (by rw [h1]; decide) (by decide) ?_
      refine lv_aload_n hx hb dX0_markInside_56 rfl (lv_at hl 1 rfl) ?_
      refine lv_iload_n hx hb dX0_markInside_57 rfl (lv_at hl 0 rfl) ?_
      have hFc := va_free (wc := wm ca ad t k v b n kd ln w nw ins) hD hS hA [0, 1, 2, 3, 4, 5, 6, 7] rfl
      refine va_callv (va_runV (As := [.int (ln wi)]) (rest := []) ⟨hx, hb, hml, hown, hts⟩ (c_markRows l dC dI ca ad _ t k v b n kd ln w nw ins  (ln wi) hn) (cwV 1 hts (gg_V mlX0_112 imX0_markRows seX0_markRows in_WindowMeters kwX0_markRows) rfl rfl rfl (by decide +kernel) ⟨Nat.le_of_ble_eq_true rfl, Nat.le_of_ble_eq_true rfl⟩) (wm_preV hK hP hD [.int (ln wi)]) rfl rfl hl.1 rfl (lv_room (Nat.le_of_ble_eq_true rfl)) dX0_markInside_58 ⟨Nat.le_of_ble_eq_true rfl, Nat.le_of_ble_eq_true rfl⟩) hS (fun q _ h => hFc q h) hFc (fun u9 t9 H1 locs ht9 hvm hw_2 hB hz1 hk1 hS => ?_)
      obtain ⟨hP, -, hD1⟩ := hB
      rw [ht9] at hP
      have hD := hD1.weaken (fun k q hk h => hFc q.1 h)
      generalize H1 = H at hP hS ⊢
      have hP : va_P (dC, dI) vwCl (wm ca ad t k v b n kd ln w nw u9) H := hP
      have hD : va_D A (wm ca ad t k v b n kd ln w nw u9) := hD
      refine lv_goto (tgt := 93) hx hb dX0_markInside_61 (by decide) ?_
      exact W.vret hx hb hr (fun t9 ht hW => ⟨⟨u9, rfl, fun j hj => by rw [qc_in, if_neg h0, if_pos h1]; exact hw_2 j hj, by rw [ht]; exact hP, va_K.moved hW.alike hK, hD⟩, hS.F ht⟩) hS.2.2 dX0_markInside_93
    · skip
      by_cases h2 : kd wi = 2
      · refine lv_tableIn (off := 51) (tgt := 64) hx hb dX0_markInside_13 (by rw [h2]; decide) (by rw [h2]; decide) (by rw [h2]; decide) (by decide) ?_
        refine lv_aload_n hx hb dX0_markInside_64 rfl (lv_at hl 1 rfl) ?_
        refine lv_iload_n hx hb dX0_markInside_65 rfl (lv_at hl 0 rfl) ?_
        have hFc := va_free (wc := wm ca ad t k v b n kd ln w nw ins) hD hS hA [0, 1, 2, 3, 4, 5, 6, 7] rfl
        refine va_callv (va_runV (As := [.int (ln wi)]) (rest := []) ⟨hx, hb, hml, hown, hts⟩ (c_markKeys l dC dI ca ad _ t k v b n kd ln w nw ins  (ln wi) hn hk8) (cwV 1 hts (gg_V mlX0_115 imX0_markKeys seX0_markKeys in_WindowMeters kwX0_markKeys) rfl rfl rfl (by decide +kernel) ⟨Nat.le_of_ble_eq_true rfl, Nat.le_of_ble_eq_true rfl⟩) (wm_preV hK hP hD [.int (ln wi)]) rfl rfl hl.1 rfl (lv_room (Nat.le_of_ble_eq_true rfl)) dX0_markInside_66 ⟨Nat.le_of_ble_eq_true rfl, Nat.le_of_ble_eq_true rfl⟩) hS (fun q _ h => hFc q h) hFc (fun u9 t9 H1 locs ht9 hvm hw_3 hB hz1 hk1 hS => ?_)
        obtain ⟨hP, -, hD1⟩ := hB
        rw [ht9] at hP
        have hD := hD1.weaken (fun k q hk h => hFc q.1 h)
        generalize H1 = H at hP hS ⊢
        have hP : va_P (dC, dI) vwCl (wm ca ad t k v b n kd ln w nw u9) H := hP
        have hD : va_D A (wm ca ad t k v b n kd ln w nw u9) := hD
        refine lv_goto (tgt := 93) hx hb dX0_markInside_69 (by decide) ?_
        exact W.vret hx hb hr (fun t9 ht hW => ⟨⟨u9, rfl, fun j hj => by rw [qc_in, if_neg h0, if_neg h1, if_pos h2]; exact hw_3 j hj, by rw [ht]; exact hP, va_K.moved hW.alike hK, hD⟩, hS.F ht⟩) hS.2.2 dX0_markInside_93
      · skip
        by_cases h3 : kd wi = 3
        · refine lv_tableIn (off := 59) (tgt := 72) hx hb dX0_markInside_13 (by rw [h3]; decide) (by rw [h3]; decide) (by rw [h3]; decide) (by decide) ?_
          refine lv_aload_n hx hb dX0_markInside_72 rfl (lv_at hl 1 rfl) ?_
          refine lv_iload_n hx hb dX0_markInside_73 rfl (lv_at hl 0 rfl) ?_
          have hFc := va_free (wc := wm ca ad t k v b n kd ln w nw ins) hD hS hA [0, 1, 2, 3, 4, 5, 6, 7] rfl
          refine va_callv (va_runV (As := [.int (ln wi)]) (rest := []) ⟨hx, hb, hml, hown, hts⟩ (c_markBlock l dC dI ca ad _ t k v b n kd ln w nw ins  (ln wi) hn) (cwV 1 hts (gg_V mlX0_118 imX0_markBlock seX0_markBlock in_WindowMeters kwX0_markBlock) rfl rfl rfl (by decide +kernel) ⟨Nat.le_of_ble_eq_true rfl, Nat.le_of_ble_eq_true rfl⟩) (wm_preV hK hP hD [.int (ln wi)]) rfl rfl hl.1 rfl (lv_room (Nat.le_of_ble_eq_true rfl)) dX0_markInside_74 ⟨Nat.le_of_ble_eq_true rfl, Nat.le_of_ble_eq_true rfl⟩) hS (fun q _ h => hFc q h) hFc (fun u9 t9 H1 locs ht9 hvm hw_4 hB hz1 hk1 hS => ?_)
          obtain ⟨hP, -, hD1⟩ := hB
          rw [ht9] at hP
          have hD := hD1.weaken (fun k q hk h => hFc q.1 h)
          generalize H1 = H at hP hS ⊢
          have hP : va_P (dC, dI) vwCl (wm ca ad t k v b n kd ln w nw u9) H := hP
          have hD : va_D A (wm ca ad t k v b n kd ln w nw u9) := hD
          refine lv_goto (tgt := 93) hx hb dX0_markInside_77 (by decide) ?_
          exact W.vret hx hb hr (fun t9 ht hW => ⟨⟨u9, rfl, fun j hj => by rw [qc_in, if_neg h0, if_neg h1, if_neg h2, if_pos h3]; exact hw_4 j hj, by rw [ht]; exact hP, va_K.moved hW.alike hK, hD⟩, hS.F ht⟩) hS.2.2 dX0_markInside_93
        · skip
          by_cases h4 : kd wi = 4
          · refine lv_tableIn (off := 67) (tgt := 80) hx hb dX0_markInside_13 (by rw [h4]; decide) (by rw [h4]; decide) (by rw [h4]; decide) (by decide) ?_
            refine lv_aload_n hx hb dX0_markInside_80 rfl (lv_at hl 1 rfl) ?_
            refine lv_iload_n hx hb dX0_markInside_81 rfl (lv_at hl 0 rfl) ?_
            have hFc := va_free (wc := wm ca ad t k v b n kd ln w nw ins) hD hS hA [0, 1, 2, 3, 4, 5, 6, 7] rfl
            refine va_callv (va_runV (As := [.int (ln wi)]) (rest := []) ⟨hx, hb, hml, hown, hts⟩ (c_markRun l dC dI ca ad _ t k v b n kd ln w nw ins  (ln wi) hn) (cwV 1 hts (gg_V mlX0_121 imX0_markRun seX0_markRun in_WindowMeters kwX0_markRun) rfl rfl rfl (by decide +kernel) ⟨Nat.le_of_ble_eq_true rfl, Nat.le_of_ble_eq_true rfl⟩) (wm_preV hK hP hD [.int (ln wi)]) rfl rfl hl.1 rfl (lv_room (Nat.le_of_ble_eq_true rfl)) dX0_markInside_82 ⟨Nat.le_of_ble_eq_true rfl, Nat.le_of_ble_eq_true rfl⟩) hS (fun q _ h => hFc q h) hFc (fun u9 t9 H1 locs ht9 hvm hw_5 hB hz1 hk1 hS => ?_)
            obtain ⟨hP, -, hD1⟩ := hB
            rw [ht9] at hP
            have hD := hD1.weaken (fun k q hk h => hFc q.1 h)
            generalize H1 = H at hP hS ⊢
            have hP : va_P (dC, dI) vwCl (wm ca ad t k v b n kd ln w nw u9) H := hP
            have hD : va_D A (wm ca ad t k v b n kd ln w nw u9) := hD
            refine lv_goto (tgt := 93) hx hb dX0_markInside_85 (by decide) ?_
            exact W.vret hx hb hr (fun t9 ht hW => ⟨⟨u9, rfl, fun j hj => by rw [qc_in, if_neg h0, if_neg h1, if_neg h2, if_neg h3, if_pos h4]; exact hw_5 j hj, by rw [ht]; exact hP, va_K.moved hW.alike hK, hD⟩, hS.F ht⟩) hS.2.2 dX0_markInside_93
          · skip
            refine lv_tableOut (tgt := 88) hx hb dX0_markInside_13 (yt_out h0 h1 h2 h3 h4) (by decide) ?_
            refine lv_aload_n hx hb dX0_markInside_88 rfl (lv_at hl 1 rfl) ?_
            refine lv_iload_n hx hb dX0_markInside_89 rfl (lv_at hl 0 rfl) ?_
            have hFc := va_free (wc := wm ca ad t k v b n kd ln w nw ins) hD hS hA [0, 1, 2, 3, 4, 5, 6, 7] rfl
            refine va_callv (va_runV (As := [.int (ln wi)]) (rest := []) ⟨hx, hb, hml, hown, hts⟩ (c_markOutside l dC dI ca ad _ t k v b n kd ln w nw ins  (ln wi) hn) (cwV 1 hts (gg_V mlX0_124 imX0_markOutside seX0_markOutside in_WindowMeters kwX0_markOutside) rfl rfl rfl (by decide +kernel) ⟨Nat.le_of_ble_eq_true rfl, Nat.le_of_ble_eq_true rfl⟩) (wm_preV hK hP hD [.int (ln wi)]) rfl rfl hl.1 rfl (lv_room (Nat.le_of_ble_eq_true rfl)) dX0_markInside_90 ⟨Nat.le_of_ble_eq_true rfl, Nat.le_of_ble_eq_true rfl⟩) hS (fun q _ h => hFc q h) hFc (fun u9 t9 H1 locs ht9 hvm hw_6 hB hz1 hk1 hS => ?_)
            obtain ⟨hP, -, hD1⟩ := hB
            rw [ht9] at hP
            have hD := hD1.weaken (fun k q hk h => hFc q.1 h)
            generalize H1 = H at hP hS ⊢
            have hP : va_P (dC, dI) vwCl (wm ca ad t k v b n kd ln w nw u9) H := hP
            have hD : va_D A (wm ca ad t k v b n kd ln w nw u9) := hD
            exact W.vret hx hb hr (fun t9 ht hW => ⟨⟨u9, rfl, fun j hj => by rw [qc_in, if_neg h0, if_neg h1, if_neg h2, if_neg h3, if_neg h4]; exact hw_6 j hj, by rw [ht]; exact hP, va_K.moved hW.alike hK, hD⟩, hS.F ht⟩) hS.2.2 dX0_markInside_93
