/-- what a throw asks, out of the tables and the start -/
theorem lw_xwP {p : Program} {s : State} {m : MethodId} {meth : Method} {c : Code} {bs L : Nat} {xs : Nat → Int32} (C0 : lw_At p s m meth c bs L xs) : xwP (fun q : Nat => s.heap.size ≤ q) s := by
  obtain ⟨hx, hb, hr, hml, hown0, hts0, hXs, hbl, hlocks, hgv⟩ := C0
  have hs := flat_of_before _ hgv
  have nA : ∀ a : Nat, a < s.heap.size → ¬ (fun q : Nat => s.heap.size ≤ q) a := fun a h => Nat.not_le.mpr h
  refine ⟨⟨fun w hw => ?_, fun q hq => ?_, fun q hq => ?_⟩, ?_, ?_⟩
  · have h1 : w ∈ lw_tbl := (by decide +kernel : ∀ w ∈ xwB, w ∈ lw_tbl) w hw
    have h2 : w.onTables = true := (by decide +kernel : ∀ w ∈ xwB, w.onTables = true) w hw
    exact va_any h2 (hts0 w h1)
  · have h1 : Cond.stringRef RX0 q.1 q.2 ∈ lw_tbl := (by decide +kernel : ∀ q ∈ xwT, Cond.stringRef RX0 q.1 q.2 ∈ lw_tbl) q hq
    have h2 := hts0 _ h1
    have hcur : ∃ cur, s.vm.findClass RX0 = some cur := by
      have h3 := h2
      simp only [Cond.before, Cond.holds, Cond.value] at h3
      cases hc : s.vm.findClass RX0 with
      | none => simp [hc] at h3
      | some cur => exact ⟨cur, rfl⟩
    obtain ⟨cur, hcur⟩ := hcur
    have h4 : (Cond.stringRef RX0 q.1 q.2).before #[] s = true := h2
    obtain ⟨k, cf, i, a, -, -, -, -, -, h5⟩ := Cond.stringRef_spec hcur h4
    exact ⟨a, h4, h5⟩
  · simp only [xwN, List.mem_cons, List.not_mem_nil, or_false] at hq
    rcases hq with rfl | rfl | rfl
    · exact va_Nc.of (hs _ (by decide +kernel))
    · exact va_Nc.of (hs _ (by decide +kernel))
    · exact va_Nc.of (hs _ (by decide +kernel))
  · exact vx_Zqof (hts0 _ (by decide +kernel)) (hts0 _ (by decide +kernel)) (hs _ (by decide +kernel)) nA
  · exact vx_Zqof (hts0 _ (by decide +kernel)) (hts0 _ (by decide +kernel)) (hs _ (by decide +kernel)) nA
set_option maxRecDepth 100000 in
set_option maxHeartbeats 8000000 in
/-- from the entry, for every script of at most 2048 ints, the law comes to its end with true -/
theorem whole_start {p : Program} {e : Env} {s : State} {m : MethodId} {below : List Frame} {meth : Method} {c : Code} (l : Launch) (hlt : l.stackTraces = false) {b L : Nat} {xs : Nat → Int32} (hL : L ≤ 2048) (C0 : lw_At p s m meth c b L xs) : W p l e room_1 s m #[Value.ref b] below meth c s.heap [] 0 0 (lw_Z below #[Value.ref b] s) (entryFrame m ([Value.ref b] : List Value).toArray 7) := by
  obtain ⟨hx, hb, hr, hml, hown0, hts0, hXs, hbl, hlocks, hgv⟩ := id C0
  have hX := lw_xwP C0
  have hown : s.vm.findClass RL = some m.cls := hown0
  have hts : ∀ w ∈ kL_window :: gt, w.before #[Value.ref b] s = true := fun w h => hts0 w ((List.mem_cons.mp h).elim (fun e => by rw [e]; exact gt_in _ kwL_window) (fun h => gt_in _ h))
  have hA : ∀ q : Nat, s.heap.size ≤ q → (fun q : Nat => s.heap.size ≤ q) q := fun _ h => h
  have hin0 : ∀ w ∈ u_ws RX0 TX0 10, w ∈ kL_window :: gt := fun w h => List.mem_cons_of_mem _ (wiX0 w h)
  obtain ⟨c0, iS0, hKn0⟩ := u_known (C := RX0) (T := TX0) (N := 10) (n := 10) hts hin0 (hts _ (List.mem_cons_of_mem _ iw_X0))
  have hin1 : ∀ w ∈ u_ws RX1 TX1 12, w ∈ kL_window :: gt := fun w h => List.mem_cons_of_mem _ (wiX1 w h)
  obtain ⟨c1, iS1, hKn1⟩ := u_known (C := RX1) (T := TX1) (N := 12) (n := 12) hts hin1 (hts _ (List.mem_cons_of_mem _ iw_X1))
  obtain ⟨dC, dI, hKc⟩ : ∃ (dC : Nat → ClassId) (dI : Nat → Nat → Nat), ∀ (k : Nat) (q : vw_C), vwCl[k]? = some q → u_Kn s q.1 q.2.1 q.2.2 (dC k) (dI k) := by
    refine ⟨fun k => if k = 0 then c0 else c1, fun k => if k = 0 then iS0 else iS1, ?_⟩
    intro k q hq
    match k, hq with
    | 0, hq => cases hq; exact hKn0
    | 1, hq => cases hq; exact hKn1
    | k + 2, hq => simp [vwCl] at hq
  have hS : va_S (fun q : Nat => s.heap.size ≤ q) s.heap s.heap [] := va_S.rf
  have hK : va_K (dC, dI) vwCl [] s := ⟨hKc, fun k q h => by simp at h⟩
  have hP : va_P (dC, dI) vwCl [] s.heap := fun k q h => by simp at h
  have hD : va_D (fun q : Nat => s.heap.size ≤ q) [] := ⟨fun i j p q h => by simp at h, fun k q h => by simp at h⟩
  have hl := lv_entry ([.ref b]) (n := 7) (Nat.le_of_ble_eq_true rfl)
  rw [lg_entry_eq]
  generalize (lg_sl ([.ref b]) ++ List.replicate (7 - (lg_sl ([.ref b])).length) Slot.unset).toArray = ls at hl ⊢
  have hl : lv_has ls 7 [(0, .ref b)] := hl
  refine va_new (ci := 0) (fs := [.null, .null, .null, .null, .int 0, .null, .null, .int 0, .int 0, .null]) (C := RX0) (T := TX0) (N := 10) hx hb hts hin0 tyX0 tyX0_ok hown (hts _ (List.mem_cons_of_mem _ klL_8)) (hts _ (List.mem_cons_of_mem _ iw_X0)) (hts _ (List.mem_cons_of_mem _ in_WindowMeters)) hK hP hD hS hA rfl (fun j hj => by rcases (show j = 0 ∨ j = 1 ∨ j = 2 ∨ j = 3 ∨ j = 4 ∨ j = 5 ∨ j = 6 ∨ j = 7 ∨ j = 8 ∨ j = 9 by omega) with rfl | rfl | rfl | rfl | rfl | rfl | rfl | rfl | rfl | rfl <;> rfl) (Nat.le_of_ble_eq_true rfl) (Nat.le_of_ble_eq_true rfl) dL_law_0 (fun q0 H hP hD hS => ?_)
  have hP : va_P (dC, dI) vwCl ([(q0, .inr (0, [.null, .null, .null, .null, .int 0, .null, .null, .int 0, .int 0, .null]))]) H := hP
  have hD : va_D (fun q : Nat => s.heap.size ≤ q) ([(q0, .inr (0, [.null, .null, .null, .null, .int 0, .null, .null, .int 0, .int 0, .null]))]) := hD
  refine W.widen (k := 1) (n := 10) (Nat.le_of_ble_eq_true rfl) (Nat.le_of_ble_eq_true rfl) ?_
  refine lv_dup hx hb dL_law_3 rfl ?_
  have hPc := hP.sub (ws' := [(q0, .inr (0, [.null, .null, .null, .null, .int 0, .null, .null, .int 0, .int 0, .null]))]) [0] rfl
  have hDc := hD.sub (ws' := [(q0, .inr (0, [.null, .null, .null, .null, .int 0, .null, .null, .int 0, .int 0, .null]))]) [0] (by decide) rfl
  have hKc := hK.sub (tys' := []) [] rfl
  have hFc := va_free (wc := [(q0, .inr (0, [.null, .null, .null, .null, .int 0, .null, .null, .int 0, .int 0, .null]))]) hD hS hA [0] rfl
  refine va_callv (va_runI (As := []) (rest := [.ref q0]) ⟨hx, hb, hml, hown, hts⟩ (c_X0_init l dC dI q0 H.size) (cwI 0 hts (gg_C kwX0_init) rfl rfl rfl (hts _ (List.mem_cons_of_mem _ in_WindowMeters)) (hts _ (List.mem_cons_of_mem _ mlL_46)) (hts _ (List.mem_cons_of_mem _ imX0_init)) rfl (by decide +kernel) ⟨Nat.le_of_ble_eq_true rfl, Nat.le_of_ble_eq_true rfl⟩) ⟨fun a U g mk q => by obtain ⟨q0, q1, qP, qK, qD⟩ := q; exact ⟨q0, q1, qP, va_K.moved (u := U) (U := U.calling g mk a) (Vm.Alike.refl U.vm) qK, qD⟩, fun U hU hW => ⟨rfl, by rw [hU], by rw [hU]; exact hPc, va_K.moved hW.alike hKc, hDc.weaken (fun _ _ _ _ => trivial)⟩⟩ rfl rfl hl.1 rfl (lv_room (Nat.le_of_ble_eq_true rfl)) dL_law_4 ⟨Nat.le_of_ble_eq_true rfl, Nat.le_of_ble_eq_true rfl⟩) hS (fun q _ h => hFc q h) hFc (fun u t9 H1 locs ht9 hvm hw9 hB hz1 hk1 hS => ?_)
  obtain ⟨ca, ad⟩ := u
  dsimp only at hw9
  obtain rfl : q0 = ad 0 := hw9.symm
  obtain ⟨hP1, hK1, hD1⟩ := hB
  rw [ht9] at hP1
  have hK1 := va_K.moved hvm.symm hK1
  obtain ⟨hP, hD⟩ := va_join (wr := []) (w1 := wm ca ad (fun _ => 0) (fun _ => 0) (fun _ => 0) (fun _ => 0) 0 (fun _ => 0) (fun _ => 0) 0 0 (fun _ => 0)) hP hD [0] [] rfl rfl (by decide) (by decide) hk1 hFc hP1 hD1
  have hK := (hK.sub (tys' := []) [] rfl).app hK1
  generalize H1 = H at hP hS ⊢
  have hP : va_P (dC, dI) vwCl (wm ca ad (fun _ => 0) (fun _ => 0) (fun _ => 0) (fun _ => 0) 0 (fun _ => 0) (fun _ => 0) 0 0 (fun _ => 0)) H := hP
  have hD : va_D (fun q : Nat => s.heap.size ≤ q) (wm ca ad (fun _ => 0) (fun _ => 0) (fun _ => 0) (fun _ => 0) 0 (fun _ => 0) (fun _ => 0) 0 0 (fun _ => 0)) := hD
  have hK : va_K (dC, dI) vwCl (wmT ca) s := hK
  refine W.widen (k := 8) (n := 1522) (Nat.le_of_ble_eq_true rfl) (Nat.le_of_ble_eq_true rfl) ?_
  refine lv_astore_n (lv' := [(1, .ref (ad 0)), (0, .ref b)]) hx hb dL_law_7 rfl hl (by decide) rfl (fun ls hl => ?_)
  refine va_new (ci := 1) (fs := [.int 0, .int 0, .null, .null, .null, .int 0, .int 0, .null, .null, .int 0, .null, .int 0]) (C := RX1) (T := TX1) (N := 12) hx hb hts hin1 tyX1 tyX1_ok hown (hts _ (List.mem_cons_of_mem _ klL_47)) (hts _ (List.mem_cons_of_mem _ iw_X1)) (hts _ (List.mem_cons_of_mem _ in_WindowMetersModel)) hK hP hD hS hA rfl (fun j hj => by rcases (show j = 0 ∨ j = 1 ∨ j = 2 ∨ j = 3 ∨ j = 4 ∨ j = 5 ∨ j = 6 ∨ j = 7 ∨ j = 8 ∨ j = 9 ∨ j = 10 ∨ j = 11 by omega) with rfl | rfl | rfl | rfl | rfl | rfl | rfl | rfl | rfl | rfl | rfl | rfl <;> rfl) (Nat.le_of_ble_eq_true rfl) (Nat.le_of_ble_eq_true rfl) dL_law_8 (fun q1 H hP hD hS => ?_)
  have hP : va_P (dC, dI) vwCl (wm ca ad (fun _ => 0) (fun _ => 0) (fun _ => 0) (fun _ => 0) 0 (fun _ => 0) (fun _ => 0) 0 0 (fun _ => 0) ++ [(q1, .inr (1, [.int 0, .int 0, .null, .null, .null, .int 0, .int 0, .null, .null, .int 0, .null, .int 0]))]) H := hP
  have hD : va_D (fun q : Nat => s.heap.size ≤ q) (wm ca ad (fun _ => 0) (fun _ => 0) (fun _ => 0) (fun _ => 0) 0 (fun _ => 0) (fun _ => 0) 0 0 (fun _ => 0) ++ [(q1, .inr (1, [.int 0, .int 0, .null, .null, .null, .int 0, .int 0, .null, .null, .int 0, .null, .int 0]))]) := hD
  refine W.widen (k := 9) (n := 1534) (Nat.le_of_ble_eq_true rfl) (Nat.le_of_ble_eq_true rfl) ?_
  refine lv_dup hx hb dL_law_11 rfl ?_
  have hPc := hP.sub (ws' := [(q1, .inr (1, [.int 0, .int 0, .null, .null, .null, .int 0, .int 0, .null, .null, .int 0, .null, .int 0]))]) [8] rfl
  have hDc := hD.sub (ws' := [(q1, .inr (1, [.int 0, .int 0, .null, .null, .null, .int 0, .int 0, .null, .null, .int 0, .null, .int 0]))]) [8] (by decide) rfl
  have hKc := hK.sub (tys' := []) [] rfl
  have hFc := va_free (wc := [(q1, .inr (1, [.int 0, .int 0, .null, .null, .null, .int 0, .int 0, .null, .null, .int 0, .null, .int 0]))]) hD hS hA [8] rfl
  refine va_callv (va_runI (As := []) (rest := [.ref q1]) ⟨hx, hb, hml, hown, hts⟩ (c_X1_init l dC dI q1 H.size) (cwI 0 hts (gg_C kwX1_init) rfl rfl rfl (hts _ (List.mem_cons_of_mem _ in_WindowMetersModel)) (hts _ (List.mem_cons_of_mem _ mlL_49)) (hts _ (List.mem_cons_of_mem _ imX1_init)) rfl (by decide +kernel) ⟨Nat.le_of_ble_eq_true rfl, Nat.le_of_ble_eq_true rfl⟩) ⟨fun a U g mk q => by obtain ⟨q0, q1, qP, qK, qD⟩ := q; exact ⟨q0, q1, qP, va_K.moved (u := U) (U := U.calling g mk a) (Vm.Alike.refl U.vm) qK, qD⟩, fun U hU hW => ⟨rfl, by rw [hU], by rw [hU]; exact hPc, va_K.moved hW.alike hKc, hDc.weaken (fun _ _ _ _ => trivial)⟩⟩ rfl rfl hl.1 rfl (lv_room (Nat.le_of_ble_eq_true rfl)) dL_law_12 ⟨Nat.le_of_ble_eq_true rfl, Nat.le_of_ble_eq_true rfl⟩) hS (fun q _ h => hFc q h) hFc (fun u t9 H1 locs ht9 hvm hw9 hB hz1 hk1 hS => ?_)
  obtain ⟨cm, am⟩ := u
  dsimp only at hw9
  obtain rfl : q1 = am 0 := hw9.symm
  obtain ⟨hP1, hK1, hD1⟩ := hB
  rw [ht9] at hP1
  have hK1 := va_K.moved hvm.symm hK1
  obtain ⟨hP, hD⟩ := va_join (wr := wm ca ad (fun _ => 0) (fun _ => 0) (fun _ => 0) (fun _ => 0) 0 (fun _ => 0) (fun _ => 0) 0 0 (fun _ => 0)) (w1 := md cm am 0 (fun _ => 0) (fun _ => 0) (fun _ => 0) 0 0 0 (fun _ => 0) (fun _ => 0) 0 (fun _ => 0) 0) hP hD [8] [0, 1, 2, 3, 4, 5, 6, 7] rfl rfl (by decide) (by decide) hk1 hFc hP1 hD1
  have hK := (hK.sub (tys' := wmT ca) [0, 1, 2, 3, 4, 5, 6] rfl).app hK1
  generalize H1 = H at hP hS ⊢
  have hP : va_P (dC, dI) vwCl (wm ca ad (fun _ => 0) (fun _ => 0) (fun _ => 0) (fun _ => 0) 0 (fun _ => 0) (fun _ => 0) 0 0 (fun _ => 0) ++ md cm am 0 (fun _ => 0) (fun _ => 0) (fun _ => 0) 0 0 0 (fun _ => 0) (fun _ => 0) 0 (fun _ => 0) 0) H := hP
  have hD : va_D (fun q : Nat => s.heap.size ≤ q) (wm ca ad (fun _ => 0) (fun _ => 0) (fun _ => 0) (fun _ => 0) 0 (fun _ => 0) (fun _ => 0) 0 0 (fun _ => 0) ++ md cm am 0 (fun _ => 0) (fun _ => 0) (fun _ => 0) 0 0 0 (fun _ => 0) (fun _ => 0) 0 (fun _ => 0) 0) := hD
  have hK : va_K (dC, dI) vwCl (wmT ca ++ mdT cm) s := hK
  refine W.widen (k := 15) (n := 2746) (Nat.le_of_ble_eq_true rfl) (Nat.le_of_ble_eq_true rfl) ?_
  refine lv_astore_n (lv' := [(2, .ref (am 0)), (1, .ref (ad 0)), (0, .ref b)]) hx hb dL_law_15 rfl hl (by decide) rfl (fun ls hl => ?_)
  refine lv_iconst (v := 1) hx hb dL_law_16 (by decide) ?_
  refine va_newa (atype := .long) (N' := 1) (a0 := (1, .inr (.inl (fun _ => 0)))) (ty := .long) hx hb (hts _ (List.mem_cons_of_mem _ ac_long)) rfl hK hP hD hS hA (fun _ => rfl) (by decide) (by decide) (by decide) (Nat.le_of_ble_eq_true rfl) (Nat.le_of_ble_eq_true rfl) dL_law_17 (fun oa co H hK hP hD hS => ?_)
  have hP := hP.sub (ws' := lwW ca ad co oa cm am (fun _ => 0) (fun _ => 0) (fun _ => 0) (fun _ => 0) 0 (fun _ => 0) (fun _ => 0) 0 0 (fun _ => 0) (fun _ => 0) 0 (fun _ => 0) (fun _ => 0) (fun _ => 0) 0 0 0 (fun _ => 0) (fun _ => 0) 0 (fun _ => 0) 0) [0, 1, 2, 3, 4, 5, 6, 7, 15, 8, 9, 10, 11, 12, 13, 14] rfl
  have hD := hD.sub (ws' := lwW ca ad co oa cm am (fun _ => 0) (fun _ => 0) (fun _ => 0) (fun _ => 0) 0 (fun _ => 0) (fun _ => 0) 0 0 (fun _ => 0) (fun _ => 0) 0 (fun _ => 0) (fun _ => 0) (fun _ => 0) 0 0 0 (fun _ => 0) (fun _ => 0) 0 (fun _ => 0) 0) [0, 1, 2, 3, 4, 5, 6, 7, 15, 8, 9, 10, 11, 12, 13, 14] (by decide) rfl
  have hK := hK.sub (tys' := lwT ca co cm) [0, 1, 2, 3, 4, 5, 6, 13, 7, 8, 9, 10, 11, 12] rfl
  refine W.widen (k := 17) (n := 2756) (Nat.le_of_ble_eq_true rfl) (Nat.le_of_ble_eq_true rfl) ?_
  refine lv_astore_n (lv' := [(3, .ref oa), (2, .ref (am 0)), (1, .ref (ad 0)), (0, .ref b)]) hx hb dL_law_19 rfl hl (by decide) rfl (fun ls hl => ?_)
  refine lv_iconst (v := 0) hx hb dL_law_20 (by decide) ?_
  refine lv_istore (lv' := [(4, .int 0), (3, .ref oa), (2, .ref (am 0)), (1, .ref (ad 0)), (0, .ref b)]) hx hb dL_law_21 hl (by decide) rfl (fun ls hl => ?_)
  have hl := lv_sub hl [4, 3, 2, 1, 0] rfl
  have hl : lv_has ls 7 [(0, .ref b), (1, .ref (ad 0)), (2, .ref (am 0)), (3, .ref oa), (4, .int (nI (4 * 0)))] := hl
  exact lw_loop hlt hL C0 hK hX (L + 1) 0 (Nat.zero_le L) (by omega) (fun _ => 0) (fun _ => 0) (fun _ => 0) (fun _ => 0) 0 (fun _ => 0) (fun _ => 0) 0 0 (fun _ => 0) (fun _ => 0) 0 0 (fun _ => 0) 0 (ji_clear (fun _ => 0) (fun _ => 0) (fun _ => 0) (fun _ => 0) (fun _ => 0)) _ _ hP hD hS ls hl
