theorem qm_seen {g k : Nat → Nat} {r n : Nat} (hr : r < n) (hg : ∀ x, x < 8 → g x = qc_oc k x (r + 1) n) (hk : k r < 8) : ∀ x, x < 8 → vu g (k r) (g (k r) + 1) x = qc_oc k x r n := by
  intro x hx
  rw [qc_oc_down k x r n hr]
  by_cases h : x = k r
  · subst h; rw [vu_same, if_pos rfl, hg _ hx]
  · rw [vu_other h, if_neg (fun q => h q.symm), hg x hx]; rfl
theorem yt_out {x : Int32} (h0 : ¬ x = 0) (h1 : ¬ x = 1) (h2 : ¬ x = 2) (h3 : ¬ x = 3) (h4 : ¬ x = 4) : x.toInt < 0 ∨ 4 < x.toInt := by
  have k : ∀ c : Int32, ¬ x = c → ¬ x.toInt = c.toInt := fun c h q => h (Int32.toInt_inj.mp q)
  have k0 := k 0 h0
  have k1 := k 1 h1
  have k2 := k 2 h2
  have k3 := k 3 h3
  have k4 := k 4 h4
  have e0 : (0 : Int32).toInt = 0 := by decide
  have e1 : (1 : Int32).toInt = 1 := by decide
  have e2 : (2 : Int32).toInt = 2 := by decide
  have e3 : (3 : Int32).toInt = 3 := by decide
  have e4 : (4 : Int32).toInt = 4 := by decide
  omega
/-! Arrays.fill(int[], int) -/
theorem fl_upd (f : Nat → Int32) (i : Nat) (x : Int32) : upd (fun j => if j < i then x else f j) i x = fun j => if j < i + 1 then x else f j := by
  funext j
  by_cases h : j = i
  · subst h; rw [pk_us, if_pos (Nat.lt_succ_self j)]
  · rw [pk_un h]
    by_cases g : j < i
    · rw [if_pos g, if_pos (by omega)]
    · rw [if_neg g, if_neg (by omega)]
set_option maxHeartbeats 4000000 in
set_option maxRecDepth 100000 in
theorem c_fill (l : Launch) (dC : Nat → ClassId) (dI : Nat → Nat → Nat) (cA : ClassId) (q0 sz N : Nat) (f : Nat → Int32) (hN : N < 2 ^ 31) (x : Int32) : Met l yJ_fill wsJ_fill ({ frames := 0, cells := 0, slots := 0, locals := 0 }) (va_Pc [.ref q0, .int x] (fun U => U.heap.size = sz ∧ va_P (dC, dI) vwCl [(q0, .inl (cA, N, .inl f))] U.heap ∧ va_K (dC, dI) vwCl [(cA, .int)] U ∧ va_D (fun _ => True) [(q0, .inl (cA, N, .inl f))])) (va_Qv (fun u : Nat → Int32 => u = fun j => if j < N then x else f j) (fun u t => va_P (dC, dI) vwCl [(q0, .inl (cA, N, .inl u))] t.heap ∧ va_K (dC, dI) vwCl [(cA, .int)] t ∧ va_D (va_A [(q0, .inl (cA, N, .inl f))] sz) [(q0, .inl (cA, N, .inl u))]) (va_A [(q0, .inl (cA, N, .inl f))] sz)) 0 0 (va_A [(q0, .inl (cA, N, .inl f))] sz) := by
  refine Met.ofW (cc := cJ_fill) (maxL := 4) (ret := none) (by decide) rfl ?_
  intro p e s m args below meth c s₁ B hml hv
  obtain ⟨rfl, hsz, hP, hK, hD0⟩ := hv
  have hx := B.exec
  have hb := B.bytes
  have hr := B.returns
  have hlocks := B.notSynchronized
  subst hsz
  have hD := hD0.self (sz := s.heap.size)
  generalize hAe : va_A [(q0, .inl (cA, N, .inl f))] s.heap.size = A at hD ⊢
  have hS : va_S A s.heap s.heap [] := va_S.rf
  have hl := lv_entry ([.ref q0, .int x]) (n := 4) (Nat.le_of_ble_eq_true rfl)
  rw [lg_entry_eq]
  generalize (lg_sl ([.ref q0, .int x]) ++ List.replicate (4 - (lg_sl ([.ref q0, .int x])).length) Slot.unset).toArray = ls at hl ⊢
  have hl : lv_has ls 4 [(0, .ref q0), (1, .int x)] := hl
  refine lv_iconst (v := 0) hx hb dJ_fill_0 (by decide) ?_
  refine lv_istore_n (lv' := [(2, .int 0), (0, .ref q0), (1, .int x)]) hx hb dJ_fill_1 rfl hl (by decide) rfl (fun ls hl => ?_)
  refine lv_aload_n hx hb dJ_fill_2 rfl (lv_at hl 1 rfl) ?_
  refine va_alen (v := nI N) hx hb hK hP 0 0 rfl rfl rfl dJ_fill_3 ?_
  refine lv_istore_n (lv' := [(3, .int (nI N)), (2, .int 0), (0, .ref q0), (1, .int x)]) hx hb dJ_fill_4 rfl hl (by decide) rfl (fun ls hl => ?_)
  have loop : ∀ (d i : Nat), i ≤ N → N + 1 ≤ i + d → ∀ (H : Heap) (locs : List Loc), va_P (dC, dI) vwCl [(q0, .inl (cA, N, .inl (fun j => if j < i then x else f j)))] H → va_D A [(q0, .inl (cA, N, .inl (fun j => if j < i then x else f j)))] → va_S A s.heap H locs → ∀ (ls : Array Slot), lv_has ls 4 [(0, .ref q0), (1, .int x), (2, .int (nI i)), (3, .int (nI N))] → W p l e (headSpec wsJ_fill ({ frames := 0, cells := 0, slots := 0, locals := 0 })).room s m ([.ref q0, .int x] : List Value).toArray below meth c H locs 0 0 (MQ below (va_Qv (fun u : Nat → Int32 => u = fun j => if j < N then x else f j) (fun u t => va_P (dC, dI) vwCl [(q0, .inl (cA, N, .inl u))] t.heap ∧ va_K (dC, dI) vwCl [(cA, .int)] t ∧ va_D A [(q0, .inl (cA, N, .inl u))]) A) ([.ref q0, .int x] : List Value).toArray s 0 0 A) (F0 m 5 ls []) := by
    intro d
    induction d with
    | zero =>
      intro i hi hd
      exact absurd hd (by omega)
    | succ d ih =>
      intro i hi hd H locs hP hD hS ls hl
      refine lv_iload_n hx hb dJ_fill_5 rfl (lv_at hl 2 rfl) ?_
      refine lv_iload_n hx hb dJ_fill_6 rfl (lv_at hl 3 rfl) ?_
      refine yb_ge (tgt := 20) (by omega) hN hx hb dJ_fill_7 (by decide) (fun c_1 => ?_) (fun c_1 => ?_)
      · obtain rfl : i = N := by omega
        exact W.vret hx hb hr (fun t9 ht hW => ⟨⟨_, rfl, rfl, by rw [ht]; exact hP, va_K.moved hW.alike hK, hD⟩, hS.F ht⟩) hS.2.2 dJ_fill_20
      · refine lv_aload_n hx hb dJ_fill_10 rfl (lv_at hl 0 rfl) ?_
        refine lv_iload_n hx hb dJ_fill_11 rfl (lv_at hl 2 rfl) ?_
        refine lv_iload_n hx hb dJ_fill_12 rfl (lv_at hl 1 rfl) ?_
        refine ya_iast hx hb hK hP hD hS 0 0 rfl rfl (j := i) c_1 hN dJ_fill_13 (fun H locs hP hD hS => ?_)
        rw [fl_upd] at hP hD
        refine lv_iinc (v := nI (i + 1)) (lv' := [(2, .int (nI (i + 1))), (0, .ref q0), (1, .int x), (3, .int (nI N))]) hx hb dJ_fill_14 hl (k := 2) rfl (yn_inc _) (by decide) rfl (fun ls hl => ?_)
        refine lv_goto (tgt := 5) hx hb dJ_fill_17 (by decide) ?_
        exact ih (i + 1) c_1 (by omega) _ _ hP hD hS ls (lv_sub hl [1, 2, 0, 3] rfl)
  have e0 : (fun j => if j < 0 then x else f j) = f := by funext j; rw [if_neg (Nat.not_lt_zero j)]
  exact loop (N + 1) 0 (Nat.zero_le N) (by omega) _ _ (by rw [e0]; exact hP) (by rw [e0]; exact hD) hS ls (lv_sub hl [2, 3, 1, 0] rfl)
set_option maxRecDepth 100000 in
set_option maxHeartbeats 4000000 in
/-- markKeys(n) -/
theorem c_markKeys (l : Launch) (dC : Nat → ClassId) (dI : Nat → Nat → Nat) (ca : Nat → ClassId) (ad : Nat → Nat) (sz : Nat) (t : Nat → Int32) (k : Nat → Nat) (v : Nat → Int32) (b : Nat → Nat) (n : Nat) (kd : Nat → Int32) (ln : Nat → Int32) (w : Nat) (nw : Int32) (ins : Nat → Int32) (sn : Nat → Nat) (p1 : Int32) (hn : n ≤ 300) (hk8 : ∀ j, j < n → k j < 8) : Met l yX0_markKeys wsX0_markKeys ({ frames := 1, cells := 0, slots := 0, locals := 23 }) (va_Pc [.ref (ad 0), .int p1] (wmPre dC dI ca ad sz t k v b n kd ln w nw ins sn)) (va_Qv (fun u : (Nat → Int32) × (Nat → Nat) => ∀ j, j < n → qc_mk (u.1 j) (nI (qc_oc k (k j) (j + 1) n) < p1)) (fun u t9 => wmAt dC dI ca ad (va_A (wm ca ad t k v b n kd ln w nw ins sn) sz) t k v b n kd ln w nw u.1 u.2 t9) (va_A (wm ca ad t k v b n kd ln w nw ins sn) sz)) 0 0 (va_A (wm ca ad t k v b n kd ln w nw ins sn) sz) := by
  refine Met.ofW (cc := cX0_markKeys) (maxL := 4) (ret := none) (by decide) rfl ?_
  intro p e s m args below meth c s₁ B hml hv
  obtain ⟨rfl, hsz, hP, hK, hD0⟩ := hv
  have hx := B.exec
  have hb := B.bytes
  have hr := B.returns
  have hts := atoms_spec (ws := wsX0_markKeys) B.pre
  have hown : s.vm.findClass RX0 = some m.cls := findClass_of_methodNamed B.named
  have hlocks := B.notSynchronized
  subst hsz
  have hin0 : ∀ w ∈ u_ws RX0 TX0 11, w ∈ wsX0_markKeys := fun w h => List.mem_cons_of_mem _ (wiX0 w h)
  have fl_13 := hts _ (List.mem_cons_of_mem _ flX0_13)
  have fl_28 := hts _ (List.mem_cons_of_mem _ flX0_28)
  have fl_32 := hts _ (List.mem_cons_of_mem _ flX0_32)
  have fl_35 := hts _ (List.mem_cons_of_mem _ flX0_35)
  have hD := hD0.self (sz := s.heap.size)
  generalize hAe : va_A (wm ca ad t k v b n kd ln w nw ins sn) s.heap.size = A at hD ⊢
  have hA : ∀ q : Nat, s.heap.size ≤ q → A q := fun q h => by rw [← hAe]; exact Or.inr h
  have hS : va_S A s.heap s.heap [] := va_S.rf
  have hl := lv_entry ([.ref (ad 0), .int p1]) (n := 4) (Nat.le_of_ble_eq_true rfl)
  rw [lg_entry_eq]
  generalize (lg_sl ([.ref (ad 0), .int p1]) ++ List.replicate (4 - (lg_sl ([.ref (ad 0), .int p1])).length) Slot.unset).toArray = ls at hl ⊢
  have hl : lv_has ls 4 [(0, .ref (ad 0)), (1, .int p1)] := hl
  refine lv_aload_n hx hb dX0_markKeys_0 rfl (lv_at hl 0 rfl) ?_
  refine va_get (D := (dC, dI)) (ci := 0) (v := .ref (ad 8)) (C := RX0) (T := TX0) (N := 11) hx hb hts hin0 hown hK hP 0 rfl rfl 10 (by decide) fl_32 (fun _ h9 => h9) rfl dX0_markKeys_1 ?_
  refine lv_iconst (v := 0) hx hb dX0_markKeys_4 (by decide) ?_
  have hPc := hP.sub (ws' := [(ad 8, .inl (ca 8, 8, .inl (fun j => nI (sn j))))]) [8] rfl
  have hDc := hD.sub (ws' := [(ad 8, .inl (ca 8, 8, .inl (fun j => nI (sn j))))]) [8] (by decide) rfl
  have hKc := hK.sub (tys' := [(ca 8, .int)]) [7] rfl
  have hFc := va_free (wc := [(ad 8, .inl (ca 8, 8, .inl (fun j => nI (sn j))))]) hD hS hA [8] rfl
  refine va_callv (va_runS (As := [.ref (ad 8), .int 0]) (rest := []) ⟨hx, hb, hml, hown, hts⟩ (c_fill l dC dI (ca 8) (ad 8) s.heap.size 8 (fun j => nI (sn j)) (by decide) 0) (va_cwS 2 hts (gg_S mlX0_130 stJ_fill in_java_util_Arrays kwJ_fill) rfl rfl rfl (by decide +kernel) ⟨Nat.le_of_ble_eq_true rfl, Nat.le_of_ble_eq_true rfl⟩) ⟨fun a U g mk q => by obtain ⟨q0, q1, qP, qK, qD⟩ := q; exact ⟨q0, q1, qP, va_K.moved (u := U) (U := U.calling g mk a) (Vm.Alike.refl U.vm) qK, qD⟩, fun U hU hW => ⟨rfl, by rw [hU], by rw [hU]; exact hPc, va_K.moved hW.alike hKc, hDc.weaken (fun _ _ _ _ => trivial)⟩⟩ rfl rfl hl.1 rfl (lv_room (Nat.le_of_ble_eq_true rfl)) dX0_markKeys_5 ⟨Nat.zero_le _, Nat.zero_le _⟩) hS (fun q _ h => hFc q h) hFc (fun u t9 H1 locs ht9 hvm hw hB hz1 hk1 hS => ?_)
  subst hw
  obtain ⟨hP1, -, hD1⟩ := hB
  rw [ht9] at hP1
  obtain ⟨hP, hD⟩ := va_join (wr := List.take 8 (wm ca ad t k v b n kd ln w nw ins sn)) hP hD [8] [0, 1, 2, 3, 4, 5, 6, 7] rfl rfl (by decide) (by decide) hk1 hFc hP1 hD1
  have e9 : (fun j => if j < 8 then (0 : Int32) else (fun j => nI (sn j)) j) = fun j => nI ((fun j => if j < 8 then 0 else sn j) j) := by
    funext j
    by_cases h : j < 8
    · simp only [h, if_true]; rfl
    · simp only [h, if_false]
  rw [e9] at hP hD
  generalize H1 = H at hP hS ⊢
  have hP : va_P (dC, dI) vwCl (wm ca ad t k v b n kd ln w nw ins (fun j => if j < 8 then 0 else sn j)) H := hP
  have hD : va_D A (wm ca ad t k v b n kd ln w nw ins (fun j => if j < 8 then 0 else sn j)) := hD
  refine lv_aload_n hx hb dX0_markKeys_8 rfl (lv_at hl 0 rfl) ?_
  refine va_get (D := (dC, dI)) (ci := 0) (v := .int (nI n)) (C := RX0) (T := TX0) (N := 11) hx hb hts hin0 hown hK hP 0 rfl rfl 4 (by decide) fl_35 (fun _ h9 => h9) rfl dX0_markKeys_9 ?_
  refine lv_iconst (v := 1) hx hb dX0_markKeys_12 (by decide) ?_
  refine lv_isub hx hb dX0_markKeys_13 ?_
  refine lv_istore_n (lv' := [(2, .int ((nI n) - 1)), (0, .ref (ad 0)), (1, .int p1)]) hx hb dX0_markKeys_14 rfl hl (by decide) rfl (fun ls hl => ?_)
  have loop : ∀ (r : Nat), r ≤ n → ∀ (f : Nat → Int32) (g : Nat → Nat) (H : Heap) (locs : List Loc), va_P (dC, dI) vwCl (wm ca ad t k v b n kd ln w nw f g) H → va_D A (wm ca ad t k v b n kd ln w nw f g) → va_S A s.heap H locs → (∀ j, r ≤ j → j < n → qc_mk (f j) (nI (qc_oc k (k j) (j + 1) n) < p1)) → (∀ x, x < 8 → g x = qc_oc k x r n) → ∀ (ls : Array Slot), lv_has ls 4 [(0, .ref (ad 0)), (1, .int p1), (2, .int (nI r - 1))] → W p l e (headSpec wsX0_markKeys ({ frames := 1, cells := 0, slots := 0, locals := 23 })).room s m ([.ref (ad 0), .int p1] : List Value).toArray below meth c H locs 0 0 (MQ below (va_Qv (fun u : (Nat → Int32) × (Nat → Nat) => ∀ j, j < n → qc_mk (u.1 j) (nI (qc_oc k (k j) (j + 1) n) < p1)) (fun u t9 => wmAt dC dI ca ad A t k v b n kd ln w nw u.1 u.2 t9) A) ([.ref (ad 0), .int p1] : List Value).toArray s 0 0 A) (F0 m 15 ls []) := by
    intro r
    induction r with
    | zero =>
      intro hi f g H locs hP hD hS hf hg ls hl
      refine lv_iload_n hx hb dX0_markKeys_15 rfl (lv_at hl 2 rfl) ?_
      refine lv_if_lt (tgt := 63) hx hb dX0_markKeys_16 (by decide) (fun c_1 => ?_) (fun c_1 => ?_)
      · exact W.vret hx hb hr (fun t9 ht hW => ⟨⟨(f, g), rfl, fun j hj => hf j (Nat.zero_le j) hj, by rw [ht]; exact hP, va_K.moved hW.alike hK, hD⟩, hS.F ht⟩) hS.2.2 dX0_markKeys_63
      · exact absurd (by decide) c_1
    | succ r ih =>
      intro hi f g H locs hP hD hS hf hg ls hl
      rw [nI_pred] at hl
      refine lv_iload_n hx hb dX0_markKeys_15 rfl (lv_at hl 2 rfl) ?_
      refine lv_if_lt (tgt := 63) hx hb dX0_markKeys_16 (by decide) (fun c_2 => ?_) (fun c_2 => ?_)
      · exact absurd c_2 (nI_pos (by omega))
      · have hkr : k r < 8 := hk8 r (by omega)
        refine lv_aload_n hx hb dX0_markKeys_19 rfl (lv_at hl 0 rfl) ?_
        refine va_get (D := (dC, dI)) (ci := 0) (v := .ref (ad 2)) (C := RX0) (T := TX0) (N := 11) hx hb hts hin0 hown hK hP 0 rfl rfl 1 (by decide) fl_13 (fun _ h9 => h9) rfl dX0_markKeys_20 ?_
        refine lv_iload_n hx hb dX0_markKeys_23 rfl (lv_at hl 2 rfl) ?_
        refine ya_iald hx hb hK hP 2 1 rfl rfl (j := r) (by omega) (by decide) dX0_markKeys_24 ?_
        refine lv_istore_n (lv' := [(3, .int (nI (k r))), (0, .ref (ad 0)), (1, .int p1), (2, .int (nI r))]) hx hb dX0_markKeys_25 rfl hl (by decide) rfl (fun ls hl => ?_)
        refine lv_aload_n hx hb dX0_markKeys_26 rfl (lv_at hl 1 rfl) ?_
        refine va_get (D := (dC, dI)) (ci := 0) (v := .ref (ad 7)) (C := RX0) (T := TX0) (N := 11) hx hb hts hin0 hown hK hP 0 rfl rfl 9 (by decide) fl_28 (fun _ h9 => h9) rfl dX0_markKeys_27 ?_
        refine lv_iload_n hx hb dX0_markKeys_30 rfl (lv_at hl 3 rfl) ?_
        refine lv_aload_n hx hb dX0_markKeys_31 rfl (lv_at hl 1 rfl) ?_
        refine va_get (D := (dC, dI)) (ci := 0) (v := .ref (ad 8)) (C := RX0) (T := TX0) (N := 11) hx hb hts hin0 hown hK hP 0 rfl rfl 10 (by decide) fl_32 (fun _ h9 => h9) rfl dX0_markKeys_32 ?_
        refine lv_iload_n hx hb dX0_markKeys_35 rfl (lv_at hl 0 rfl) ?_
        refine ya_iald hx hb hK hP 8 7 rfl rfl (j := (k r)) hkr (by decide) dX0_markKeys_36 ?_
        refine lv_iload_n hx hb dX0_markKeys_37 rfl (lv_at hl 2 rfl) ?_
        refine lv_icmp_ge (tgt := 45) hx hb dX0_markKeys_38 (by decide) (fun c_3 => ?_) (fun c_3 => ?_)
        · have hmk : qc_mk 0 (nI (qc_oc k (k r) (r + 1) n) < p1) := qc_mk0 (by rw [← hg (k r) hkr]; exact Int32.not_lt.mpr c_3)
          refine lv_iconst (v := 0) hx hb dX0_markKeys_45 (by decide) ?_
          refine ya_zast hx hb hK hP hD hS 7 6 rfl rfl (j := r) (by omega) (by decide) yn_z0 dX0_markKeys_46 (fun H locs hP hD hS => ?_)
          have hP : va_P (dC, dI) vwCl (wm ca ad t k v b n kd ln w nw (upd f r 0) g) H := hP
          have hD : va_D A (wm ca ad t k v b n kd ln w nw (upd f r 0) g) := hD
          refine lv_aload_n hx hb dX0_markKeys_47 rfl (lv_at hl 1 rfl) ?_
          refine va_get (D := (dC, dI)) (ci := 0) (v := .ref (ad 8)) (C := RX0) (T := TX0) (N := 11) hx hb hts hin0 hown hK hP 0 rfl rfl 10 (by decide) fl_32 (fun _ h9 => h9) rfl dX0_markKeys_48 ?_
          refine lv_iload_n hx hb dX0_markKeys_51 rfl (lv_at hl 0 rfl) ?_
          refine lv_dup2_11 hx hb dX0_markKeys_52 rfl rfl ?_
          refine ya_iald hx hb hK hP 8 7 rfl rfl (j := (k r)) hkr (by decide) dX0_markKeys_53 ?_
          refine lv_iconst (v := 1) hx hb dX0_markKeys_54 (by decide) ?_
          refine lv_iadd hx hb dX0_markKeys_55 ?_
          rw [nI_1 (g (k r))]
          refine ya_iast hx hb hK hP hD hS 8 7 rfl rfl (j := (k r)) hkr (by decide) dX0_markKeys_56 (fun H locs hP hD hS => ?_)
          rw [vu_upd] at hP hD
          have hD : va_D A (wm ca ad t k v b n kd ln w nw (upd f r 0) (vu g (k r) (g (k r) + 1))) := hD
          have hP : va_P (dC, dI) vwCl (wm ca ad t k v b n kd ln w nw (upd f r 0) (vu g (k r) (g (k r) + 1))) H := hP
          refine lv_iinc (v := (nI r - 1)) (lv' := [(2, .int (nI r - 1)), (3, .int (nI (k r))), (0, .ref (ad 0)), (1, .int p1)]) hx hb dX0_markKeys_57 hl (k := 3) rfl (yn_dm _) (by decide) rfl (fun ls hl => ?_)
          refine lv_goto (tgt := 15) hx hb dX0_markKeys_60 (by decide) ?_
          exact ih (by omega) _ _ _ _ hP hD hS (qm_down (P := fun j => nI (qc_oc k (k j) (j + 1) n) < p1) hf hmk) (qm_seen (by omega) hg hkr) ls (lv_sub hl [2, 3, 0] rfl)
        · have hmk : qc_mk 1 (nI (qc_oc k (k r) (r + 1) n) < p1) := qc_mk1 (by rw [← hg (k r) hkr]; exact Int32.not_le.mp c_3)
          refine lv_iconst (v := 1) hx hb dX0_markKeys_41 (by decide) ?_
          refine lv_goto (tgt := 46) hx hb dX0_markKeys_42 (by decide) ?_
          refine ya_zast hx hb hK hP hD hS 7 6 rfl rfl (j := r) (by omega) (by decide) yn_z1 dX0_markKeys_46 (fun H locs hP hD hS => ?_)
          have hP : va_P (dC, dI) vwCl (wm ca ad t k v b n kd ln w nw (upd f r 1) g) H := hP
          have hD : va_D A (wm ca ad t k v b n kd ln w nw (upd f r 1) g) := hD
          refine lv_aload_n hx hb dX0_markKeys_47 rfl (lv_at hl 1 rfl) ?_
          refine va_get (D := (dC, dI)) (ci := 0) (v := .ref (ad 8)) (C := RX0) (T := TX0) (N := 11) hx hb hts hin0 hown hK hP 0 rfl rfl 10 (by decide) fl_32 (fun _ h9 => h9) rfl dX0_markKeys_48 ?_
          refine lv_iload_n hx hb dX0_markKeys_51 rfl (lv_at hl 0 rfl) ?_
          refine lv_dup2_11 hx hb dX0_markKeys_52 rfl rfl ?_
          refine ya_iald hx hb hK hP 8 7 rfl rfl (j := (k r)) hkr (by decide) dX0_markKeys_53 ?_
          refine lv_iconst (v := 1) hx hb dX0_markKeys_54 (by decide) ?_
          refine lv_iadd hx hb dX0_markKeys_55 ?_
          rw [nI_1 (g (k r))]
          refine ya_iast hx hb hK hP hD hS 8 7 rfl rfl (j := (k r)) hkr (by decide) dX0_markKeys_56 (fun H locs hP hD hS => ?_)
          rw [vu_upd] at hP hD
          have hD : va_D A (wm ca ad t k v b n kd ln w nw (upd f r 1) (vu g (k r) (g (k r) + 1))) := hD
          have hP : va_P (dC, dI) vwCl (wm ca ad t k v b n kd ln w nw (upd f r 1) (vu g (k r) (g (k r) + 1))) H := hP
          refine lv_iinc (v := (nI r - 1)) (lv' := [(2, .int (nI r - 1)), (3, .int (nI (k r))), (0, .ref (ad 0)), (1, .int p1)]) hx hb dX0_markKeys_57 hl (k := 3) rfl (yn_dm _) (by decide) rfl (fun ls hl => ?_)
          refine lv_goto (tgt := 15) hx hb dX0_markKeys_60 (by decide) ?_
          exact ih (by omega) _ _ _ _ hP hD hS (qm_down (P := fun j => nI (qc_oc k (k j) (j + 1) n) < p1) hf hmk) (qm_seen (by omega) hg hkr) ls (lv_sub hl [2, 3, 0] rfl)
  exact loop n (Nat.le_refl n) _ _ _ _ hP hD hS (fun j g1 g2 => absurd g2 (by omega)) (fun x hx8 => by rw [if_pos hx8, qc_oc_none k x n n (Nat.le_refl n)]) ls (lv_sub hl [1, 2, 0] rfl)

set_option maxRecDepth 100000 in
set_option maxHeartbeats 4000000 in
/-- markInside(w) -/
theorem c_markInside (l : Launch) (dC : Nat → ClassId) (dI : Nat → Nat → Nat) (ca : Nat → ClassId) (ad : Nat → Nat) (sz : Nat) (t : Nat → Int32) (k : Nat → Nat) (v : Nat → Int32) (b : Nat → Nat) (n : Nat) (kd : Nat → Int32) (ln : Nat → Int32) (w : Nat) (nw : Int32) (ins : Nat → Int32) (sn : Nat → Nat) (wi : Nat) (hn : n ≤ 300) (hk8 : ∀ j, j < n → k j < 8) (hwi : wi < 6) : Met l yX0_markInside wsX0_markInside ({ frames := 2, cells := 0, slots := 0, locals := 46 }) (va_Pc [.ref (ad 0), .int (nI wi)] (wmPre dC dI ca ad sz t k v b n kd ln w nw ins sn)) (va_Qv (fun u : (Nat → Int32) × (Nat → Nat) => ∀ j, j < n → qc_mk (u.1 j) (qc_in t k n nw (kd wi) (ln wi) j)) (fun u t9 => wmAt dC dI ca ad (va_A (wm ca ad t k v b n kd ln w nw ins sn) sz) t k v b n kd ln w nw u.1 u.2 t9) (va_A (wm ca ad t k v b n kd ln w nw ins sn) sz)) 0 0 (va_A (wm ca ad t k v b n kd ln w nw ins sn) sz) := by
  refine Met.ofW (cc := cX0_markInside) (maxL := 3) (ret := none) (by decide) rfl ?_
  intro p e s m args below meth c s₁ B hml hv
  obtain ⟨rfl, hsz, hP, hK, hD0⟩ := hv
  have hx := B.exec
  have hb := B.bytes
  have hr := B.returns
  have hts := atoms_spec (ws := wsX0_markInside) B.pre
  have hown : s.vm.findClass RX0 = some m.cls := findClass_of_methodNamed B.named
  have hlocks := B.notSynchronized
  subst hsz
  have hin0 : ∀ w ∈ u_ws RX0 TX0 11, w ∈ wsX0_markInside := fun w h => List.mem_cons_of_mem _ (wiX0 w h)
  have fl_22 := hts _ (List.mem_cons_of_mem _ flX0_22)
  have fl_25 := hts _ (List.mem_cons_of_mem _ flX0_25)
  have hD := hD0.self (sz := s.heap.size)
  generalize hAe : va_A (wm ca ad t k v b n kd ln w nw ins sn) s.heap.size = A at hD ⊢
  have hA : ∀ q : Nat, s.heap.size ≤ q → A q := fun q h => by rw [← hAe]; exact Or.inr h
  have hS : va_S A s.heap s.heap [] := va_S.rf
  have hl := lv_entry ([.ref (ad 0), .int (nI wi)]) (n := 3) (Nat.le_of_ble_eq_true rfl)
  rw [lg_entry_eq]
  generalize (lg_sl ([.ref (ad 0), .int (nI wi)]) ++ List.replicate (3 - (lg_sl ([.ref (ad 0), .int (nI wi)])).length) Slot.unset).toArray = ls at hl ⊢
  have hl : lv_has ls 3 [(0, .ref (ad 0)), (1, .int (nI wi))] := hl
  refine lv_aload_n hx hb dX0_markInside_0 rfl (lv_at hl 0 rfl) ?_
  refine va_get (D := (dC, dI)) (ci := 0) (v := .ref (ad 6)) (C := RX0) (T := TX0) (N := 11) hx hb hts hin0 hown hK hP 0 rfl rfl 6 (by decide) fl_25 (fun _ h9 => h9) rfl dX0_markInside_1 ?_
  refine lv_iload_n hx hb dX0_markInside_4 rfl (lv_at hl 1 rfl) ?_
  refine ya_iald hx hb hK hP 6 5 rfl rfl (j := wi) hwi (by decide) dX0_markInside_5 ?_
  refine lv_istore_n (lv' := [(2, .int (ln wi)), (0, .ref (ad 0)), (1, .int (nI wi))]) hx hb dX0_markInside_6 rfl hl (by decide) rfl (fun ls hl => ?_)
  refine lv_aload_n hx hb dX0_markInside_7 rfl (lv_at hl 1 rfl) ?_
  refine va_get (D := (dC, dI)) (ci := 0) (v := .ref (ad 5)) (C := RX0) (T := TX0) (N := 11) hx hb hts hin0 hown hK hP 0 rfl rfl 5 (by decide) fl_22 (fun _ h9 => h9) rfl dX0_markInside_8 ?_
  refine lv_iload_n hx hb dX0_markInside_11 rfl (lv_at hl 2 rfl) ?_
  refine ya_iald hx hb hK hP 5 4 rfl rfl (j := wi) hwi (by decide) dX0_markInside_12 ?_
  by_cases h0 : kd wi = 0
  · refine lv_tableIn (off := 35) (tgt := 48) hx hb dX0_markInside_13 (by rw [h0]; decide) (by rw [h0]; decide) (by rw [h0]; decide) (by decide) ?_
    refine lv_aload_n hx hb dX0_markInside_48 rfl (lv_at hl 1 rfl) ?_
    refine lv_iload_n hx hb dX0_markInside_49 rfl (lv_at hl 0 rfl) ?_
    have hFc := va_free (wc := wm ca ad t k v b n kd ln w nw ins sn) hD hS hA [0, 1, 2, 3, 4, 5, 6, 7, 8] rfl
    refine va_callv (va_runV (As := [.int (ln wi)]) (rest := []) ⟨hx, hb, hml, hown, hts⟩ (c_markRange l dC dI ca ad _ t k v b n kd ln w nw ins sn  (ln wi) hn) (cwV 1 hts (gg_V mlX0_112 imX0_markRange seX0_markRange in_WindowMeters kwX0_markRange) rfl rfl rfl (by decide +kernel) ⟨Nat.le_of_ble_eq_true rfl, Nat.le_of_ble_eq_true rfl⟩) (wm_preV hK hP hD [.int (ln wi)]) rfl rfl hl.1 rfl (lv_room (Nat.le_of_ble_eq_true rfl)) dX0_markInside_50 ⟨Nat.le_of_ble_eq_true rfl, Nat.le_of_ble_eq_true rfl⟩) hS (fun q _ h => hFc q h) hFc (fun u9 t9 H1 locs ht9 hvm hw_1 hB hz1 hk1 hS => ?_)
    obtain ⟨hP, -, hD1⟩ := hB
    rw [ht9] at hP
    have hD := hD1.weaken (fun k q hk h => hFc q.1 h)
    generalize H1 = H at hP hS ⊢
    have hP : va_P (dC, dI) vwCl (wm ca ad t k v b n kd ln w nw u9 sn) H := hP
    have hD : va_D A (wm ca ad t k v b n kd ln w nw u9 sn) := hD
    refine lv_goto (tgt := 93) hx hb dX0_markInside_53 (by decide) ?_
    exact W.vret hx hb hr (fun t9 ht hW => ⟨⟨(u9, sn), rfl, fun j hj => by rw [qc_in, if_pos h0]; exact hw_1 j hj, by rw [ht]; exact hP, va_K.moved hW.alike hK, hD⟩, hS.F ht⟩) hS.2.2 dX0_markInside_93
  · skip
    by_cases h1 : kd wi = 1
    · refine lv_tableIn (off := 43) (tgt := 56) hx hb dX0_markInside_13 (by rw [h1]; decide) (by rw [h1]; decide) (by rw [h1]; decide) (by decide) ?_
      refine lv_aload_n hx hb dX0_markInside_56 rfl (lv_at hl 1 rfl) ?_
      refine lv_iload_n hx hb dX0_markInside_57 rfl (lv_at hl 0 rfl) ?_
      have hFc := va_free (wc := wm ca ad t k v b n kd ln w nw ins sn) hD hS hA [0, 1, 2, 3, 4, 5, 6, 7, 8] rfl
      refine va_callv (va_runV (As := [.int (ln wi)]) (rest := []) ⟨hx, hb, hml, hown, hts⟩ (c_markRows l dC dI ca ad _ t k v b n kd ln w nw ins sn  (ln wi) hn) (cwV 1 hts (gg_V mlX0_115 imX0_markRows seX0_markRows in_WindowMeters kwX0_markRows) rfl rfl rfl (by decide +kernel) ⟨Nat.le_of_ble_eq_true rfl, Nat.le_of_ble_eq_true rfl⟩) (wm_preV hK hP hD [.int (ln wi)]) rfl rfl hl.1 rfl (lv_room (Nat.le_of_ble_eq_true rfl)) dX0_markInside_58 ⟨Nat.le_of_ble_eq_true rfl, Nat.le_of_ble_eq_true rfl⟩) hS (fun q _ h => hFc q h) hFc (fun u9 t9 H1 locs ht9 hvm hw_2 hB hz1 hk1 hS => ?_)
      obtain ⟨hP, -, hD1⟩ := hB
      rw [ht9] at hP
      have hD := hD1.weaken (fun k q hk h => hFc q.1 h)
      generalize H1 = H at hP hS ⊢
      have hP : va_P (dC, dI) vwCl (wm ca ad t k v b n kd ln w nw u9 sn) H := hP
      have hD : va_D A (wm ca ad t k v b n kd ln w nw u9 sn) := hD
      refine lv_goto (tgt := 93) hx hb dX0_markInside_61 (by decide) ?_
      exact W.vret hx hb hr (fun t9 ht hW => ⟨⟨(u9, sn), rfl, fun j hj => by rw [qc_in, if_neg h0, if_pos h1]; exact hw_2 j hj, by rw [ht]; exact hP, va_K.moved hW.alike hK, hD⟩, hS.F ht⟩) hS.2.2 dX0_markInside_93
    · skip
      by_cases h2 : kd wi = 2
      · refine lv_tableIn (off := 51) (tgt := 64) hx hb dX0_markInside_13 (by rw [h2]; decide) (by rw [h2]; decide) (by rw [h2]; decide) (by decide) ?_
        refine lv_aload_n hx hb dX0_markInside_64 rfl (lv_at hl 1 rfl) ?_
        refine lv_iload_n hx hb dX0_markInside_65 rfl (lv_at hl 0 rfl) ?_
        have hFc := va_free (wc := wm ca ad t k v b n kd ln w nw ins sn) hD hS hA [0, 1, 2, 3, 4, 5, 6, 7, 8] rfl
        refine va_callv (va_runV (As := [.int (ln wi)]) (rest := []) ⟨hx, hb, hml, hown, hts⟩ (c_markKeys l dC dI ca ad _ t k v b n kd ln w nw ins sn  (ln wi) hn hk8) (cwV 1 hts (gg_V mlX0_118 imX0_markKeys seX0_markKeys in_WindowMeters kwX0_markKeys) rfl rfl rfl (by decide +kernel) ⟨Nat.le_of_ble_eq_true rfl, Nat.le_of_ble_eq_true rfl⟩) (wm_preV hK hP hD [.int (ln wi)]) rfl rfl hl.1 rfl (lv_room (Nat.le_of_ble_eq_true rfl)) dX0_markInside_66 ⟨Nat.le_of_ble_eq_true rfl, Nat.le_of_ble_eq_true rfl⟩) hS (fun q _ h => hFc q h) hFc (fun u9 t9 H1 locs ht9 hvm hw_3 hB hz1 hk1 hS => ?_)
        obtain ⟨hP, -, hD1⟩ := hB
        rw [ht9] at hP
        have hD := hD1.weaken (fun k q hk h => hFc q.1 h)
        generalize H1 = H at hP hS ⊢
        have hP : va_P (dC, dI) vwCl (wm ca ad t k v b n kd ln w nw u9.1 u9.2) H := hP
        have hD : va_D A (wm ca ad t k v b n kd ln w nw u9.1 u9.2) := hD
        refine lv_goto (tgt := 93) hx hb dX0_markInside_69 (by decide) ?_
        exact W.vret hx hb hr (fun t9 ht hW => ⟨⟨u9, rfl, fun j hj => by rw [qc_in, if_neg h0, if_neg h1, if_pos h2]; exact hw_3 j hj, by rw [ht]; exact hP, va_K.moved hW.alike hK, hD⟩, hS.F ht⟩) hS.2.2 dX0_markInside_93
      · skip
        by_cases h3 : kd wi = 3
        · refine lv_tableIn (off := 59) (tgt := 72) hx hb dX0_markInside_13 (by rw [h3]; decide) (by rw [h3]; decide) (by rw [h3]; decide) (by decide) ?_
          refine lv_aload_n hx hb dX0_markInside_72 rfl (lv_at hl 1 rfl) ?_
          refine lv_iload_n hx hb dX0_markInside_73 rfl (lv_at hl 0 rfl) ?_
          have hFc := va_free (wc := wm ca ad t k v b n kd ln w nw ins sn) hD hS hA [0, 1, 2, 3, 4, 5, 6, 7, 8] rfl
          refine va_callv (va_runV (As := [.int (ln wi)]) (rest := []) ⟨hx, hb, hml, hown, hts⟩ (c_markBlock l dC dI ca ad _ t k v b n kd ln w nw ins sn  (ln wi) hn) (cwV 1 hts (gg_V mlX0_121 imX0_markBlock seX0_markBlock in_WindowMeters kwX0_markBlock) rfl rfl rfl (by decide +kernel) ⟨Nat.le_of_ble_eq_true rfl, Nat.le_of_ble_eq_true rfl⟩) (wm_preV hK hP hD [.int (ln wi)]) rfl rfl hl.1 rfl (lv_room (Nat.le_of_ble_eq_true rfl)) dX0_markInside_74 ⟨Nat.le_of_ble_eq_true rfl, Nat.le_of_ble_eq_true rfl⟩) hS (fun q _ h => hFc q h) hFc (fun u9 t9 H1 locs ht9 hvm hw_4 hB hz1 hk1 hS => ?_)
          obtain ⟨hP, -, hD1⟩ := hB
          rw [ht9] at hP
          have hD := hD1.weaken (fun k q hk h => hFc q.1 h)
          generalize H1 = H at hP hS ⊢
          have hP : va_P (dC, dI) vwCl (wm ca ad t k v b n kd ln w nw u9 sn) H := hP
          have hD : va_D A (wm ca ad t k v b n kd ln w nw u9 sn) := hD
          refine lv_goto (tgt := 93) hx hb dX0_markInside_77 (by decide) ?_
          exact W.vret hx hb hr (fun t9 ht hW => ⟨⟨(u9, sn), rfl, fun j hj => by rw [qc_in, if_neg h0, if_neg h1, if_neg h2, if_pos h3]; exact hw_4 j hj, by rw [ht]; exact hP, va_K.moved hW.alike hK, hD⟩, hS.F ht⟩) hS.2.2 dX0_markInside_93
        · skip
          by_cases h4 : kd wi = 4
          · refine lv_tableIn (off := 67) (tgt := 80) hx hb dX0_markInside_13 (by rw [h4]; decide) (by rw [h4]; decide) (by rw [h4]; decide) (by decide) ?_
            refine lv_aload_n hx hb dX0_markInside_80 rfl (lv_at hl 1 rfl) ?_
            refine lv_iload_n hx hb dX0_markInside_81 rfl (lv_at hl 0 rfl) ?_
            have hFc := va_free (wc := wm ca ad t k v b n kd ln w nw ins sn) hD hS hA [0, 1, 2, 3, 4, 5, 6, 7, 8] rfl
            refine va_callv (va_runV (As := [.int (ln wi)]) (rest := []) ⟨hx, hb, hml, hown, hts⟩ (c_markRun l dC dI ca ad _ t k v b n kd ln w nw ins sn  (ln wi) hn) (cwV 1 hts (gg_V mlX0_124 imX0_markRun seX0_markRun in_WindowMeters kwX0_markRun) rfl rfl rfl (by decide +kernel) ⟨Nat.le_of_ble_eq_true rfl, Nat.le_of_ble_eq_true rfl⟩) (wm_preV hK hP hD [.int (ln wi)]) rfl rfl hl.1 rfl (lv_room (Nat.le_of_ble_eq_true rfl)) dX0_markInside_82 ⟨Nat.le_of_ble_eq_true rfl, Nat.le_of_ble_eq_true rfl⟩) hS (fun q _ h => hFc q h) hFc (fun u9 t9 H1 locs ht9 hvm hw_5 hB hz1 hk1 hS => ?_)
            obtain ⟨hP, -, hD1⟩ := hB
            rw [ht9] at hP
            have hD := hD1.weaken (fun k q hk h => hFc q.1 h)
            generalize H1 = H at hP hS ⊢
            have hP : va_P (dC, dI) vwCl (wm ca ad t k v b n kd ln w nw u9 sn) H := hP
            have hD : va_D A (wm ca ad t k v b n kd ln w nw u9 sn) := hD
            refine lv_goto (tgt := 93) hx hb dX0_markInside_85 (by decide) ?_
            exact W.vret hx hb hr (fun t9 ht hW => ⟨⟨(u9, sn), rfl, fun j hj => by rw [qc_in, if_neg h0, if_neg h1, if_neg h2, if_neg h3, if_pos h4]; exact hw_5 j hj, by rw [ht]; exact hP, va_K.moved hW.alike hK, hD⟩, hS.F ht⟩) hS.2.2 dX0_markInside_93
          · skip
            refine lv_tableOut (tgt := 88) hx hb dX0_markInside_13 (yt_out h0 h1 h2 h3 h4) (by decide) ?_
            refine lv_aload_n hx hb dX0_markInside_88 rfl (lv_at hl 1 rfl) ?_
            refine lv_iload_n hx hb dX0_markInside_89 rfl (lv_at hl 0 rfl) ?_
            have hFc := va_free (wc := wm ca ad t k v b n kd ln w nw ins sn) hD hS hA [0, 1, 2, 3, 4, 5, 6, 7, 8] rfl
            refine va_callv (va_runV (As := [.int (ln wi)]) (rest := []) ⟨hx, hb, hml, hown, hts⟩ (c_markOutside l dC dI ca ad _ t k v b n kd ln w nw ins sn  (ln wi) hn) (cwV 1 hts (gg_V mlX0_127 imX0_markOutside seX0_markOutside in_WindowMeters kwX0_markOutside) rfl rfl rfl (by decide +kernel) ⟨Nat.le_of_ble_eq_true rfl, Nat.le_of_ble_eq_true rfl⟩) (wm_preV hK hP hD [.int (ln wi)]) rfl rfl hl.1 rfl (lv_room (Nat.le_of_ble_eq_true rfl)) dX0_markInside_90 ⟨Nat.le_of_ble_eq_true rfl, Nat.le_of_ble_eq_true rfl⟩) hS (fun q _ h => hFc q h) hFc (fun u9 t9 H1 locs ht9 hvm hw_6 hB hz1 hk1 hS => ?_)
            obtain ⟨hP, -, hD1⟩ := hB
            rw [ht9] at hP
            have hD := hD1.weaken (fun k q hk h => hFc q.1 h)
            generalize H1 = H at hP hS ⊢
            have hP : va_P (dC, dI) vwCl (wm ca ad t k v b n kd ln w nw u9 sn) H := hP
            have hD : va_D A (wm ca ad t k v b n kd ln w nw u9 sn) := hD
            exact W.vret hx hb hr (fun t9 ht hW => ⟨⟨(u9, sn), rfl, fun j hj => by rw [qc_in, if_neg h0, if_neg h1, if_neg h2, if_neg h3, if_neg h4]; exact hw_6 j hj, by rw [ht]; exact hP, va_K.moved hW.alike hK, hD⟩, hS.F ht⟩) hS.2.2 dX0_markInside_93
