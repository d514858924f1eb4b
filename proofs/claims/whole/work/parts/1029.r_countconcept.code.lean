def f_R_countConcept (iR3 : Int32) (iR4 : Int32) (iT3 : Int32) (iB1 : Int32) : Option (Int32 × Int32 × Int32 × Int32) := if iB1 < (200 : Int32) then (some ((1 : Int32), iR3, iR4, (iB1 + (1 : Int32)))) else ((f_R_failHere ((3 : Int32)) iR3 iR4 iT3).bind fun q15 => (some ((0 : Int32), q15.2.1, q15.2.2, iB1)))
set_option maxHeartbeats 8000000 in
set_option maxRecDepth 100000 in
theorem c_R_countConcept (l : Launch) (dC : Nat → ClassId) (dI : Nat → Nat → Nat) (cy : Nat → ClassId) (ad : Nat → Nat) (sz : Nat) (iR : Nat → Int32) (iT : Nat → Int32) (wT : Int64) (tx : Nat → Int32) (iB : Nat → Int32) (lB : Nat → Nat → Int64) (aB : Nat → Nat → Int32) (iC : Nat → Int32) (aC : Nat → Nat → Int32) (q : Int32 × Int32 × Int32 × Int32) (h : f_R_countConcept (iR 3) (iR 4) (iT 3) (iB 1) = some q) : Met l yX4_countConcept wsX4_countConcept ({ frames := 2, cells := 0, slots := 0, locals := 43 } : Room) (cP (dC, dI) cy [.ref (ad 0)] (zzR ad cy (ad 3) (ad 10) iR iT wT tx iB lB aB iC aC) sz) (cQi (dC, dI) cy q.1 (zzR ad cy (ad 3) (ad 10) (us iR [(3, q.2.1), (4, q.2.2.1)]) iT wT tx (us iB [(1, q.2.2.2)]) lB aB iC aC) (va_A (zzR ad cy (ad 3) (ad 10) iR iT wT tx iB lB aB iC aC) sz)) 0 0 (va_A (zzR ad cy (ad 3) (ad 10) iR iT wT tx iB lB aB iC aC) sz) := by
  refine Met.ofW (cc := cX4_countConcept) (maxL := 1) (ret := (some .boolean)) (by decide) rfl ?_
  intro p e s m args below meth c s₁ B hml hv
  obtain ⟨hav, hsz, hP, hK, hD0, hN⟩ := hv
  have hx := B.exec
  have hb := B.bytes
  have hr := B.returns
  have hts := atoms_spec (ws := wsX4_countConcept) B.pre
  have hown : s.vm.findClass RX4 = some m.cls := findClass_of_methodNamed B.named
  have hlocks := B.notSynchronized
  subst hsz
  have hD := hD0.self (sz := s.heap.size)
  generalize hAe : va_A (zzR ad cy (ad 3) (ad 10) iR iT wT tx iB lB aB iC aC) s.heap.size = A at hD ⊢
  have hA : ∀ q : Nat, s.heap.size ≤ q → A q := fun q h => by rw [← hAe]; exact Or.inr h
  have hS : va_S A s.heap s.heap [] := va_S.rf
  generalize hWQ : (zzR ad cy (ad 3) (ad 10) (us iR [(3, q.2.1), (4, q.2.2.1)]) iT wT tx (us iB [(1, q.2.2.2)]) lB aB iC aC) = WQ
  generalize hQQ : MQ below (cQi (dC, dI) cy q.1 WQ A) args s 0 0 A = QQ
  have hl := lv_entry ([.ref (ad 0)] : List Value) (n := 1) (Nat.le_of_ble_eq_true rfl)
  have hfr := lg_entry_eq m ([.ref (ad 0)] : List Value) 1
  rw [← hav] at hfr
  rw [hfr]
  clear hfr hav
  generalize (lg_sl ([.ref (ad 0)] : List Value) ++ List.replicate (1 - (lg_sl ([.ref (ad 0)] : List Value)).length) Slot.unset).toArray = ls at hl ⊢
  have hl : lv_has ls 1 [(0, .ref (ad 0))] := hl
  have kf24 := hts _ (List.mem_cons_of_mem _ m_fl_X4_24)
  have ki4 := (fun w h => List.mem_cons_of_mem _ (i_X4 w h) : ∀ w ∈ u_ws RX4 TX4 5, w ∈ wsX4_countConcept)
  have kf194 := hts _ (List.mem_cons_of_mem _ m_fl_X4_194)
  have ki0 := (fun w h => List.mem_cons_of_mem _ (i_X0 w h) : ∀ w ∈ u_ws RX0 TX0 15, w ∈ wsX4_countConcept)
  refine (?_ : ∀ (H : Heap) (locs : List Loc), va_P (dC, dI) vwCl (zzR ad cy (ad 3) (ad 10) iR iT wT tx iB lB aB iC aC) H → va_D A (zzR ad cy (ad 3) (ad 10) iR iT wT tx iB lB aB iC aC) → va_S A s.heap H locs → W p l e ({ frames := 2, cells := 0, slots := 0, locals := 43 } : Room) s m args below meth c H locs 0 0 QQ (F0 m 0 ls [])) s.heap [] hP hD hS
  clear hP hD hS
  intro H locs hP hD hS
  unfold f_R_countConcept at h
  refine lv_aload_n hx hb dX4_countConcept_0 rfl (lv_at hl 0 rfl) ?_
  refine va_get (D := (dC, dI)) (ci := 4) (v := .ref (ad 3)) (C := RX4) (T := TX4) (N := 5) hx hb hts ki4 hown hK hP 0 rfl rfl 1 (by decide) kf24 (fun _ h9 => h9) rfl dX4_countConcept_1 ?_
  refine va_get (D := (dC, dI)) (ci := 0) (v := .int (iB 1)) (C := RX0) (T := TX0) (N := 15) hx hb hts ki0 hown hK hP 3 rfl rfl 1 (by decide) kf194 (fun _ h9 => h9) rfl dX4_countConcept_4 ?_
  refine lv_sipush (v := 200) hx hb dX4_countConcept_7 (by decide) ?_
  refine lv_icmp_lt (tgt := 21) hx hb dX4_countConcept_10 (by decide) (fun cz => ?_) (fun cz => ?_)
  · have h := g_t h cz
    refine lv_aload_n hx hb dX4_countConcept_21 rfl (lv_at hl 0 rfl) ?_
    refine va_get (D := (dC, dI)) (ci := 4) (v := .ref (ad 3)) (C := RX4) (T := TX4) (N := 5) hx hb hts ki4 hown hK hP 0 rfl rfl 1 (by decide) kf24 (fun _ h9 => h9) rfl dX4_countConcept_22 ?_
    refine lv_dup hx hb dX4_countConcept_25 rfl ?_
    refine va_get (D := (dC, dI)) (ci := 0) (v := .int (iB 1)) (C := RX0) (T := TX0) (N := 15) hx hb hts ki0 hown hK hP 3 rfl rfl 1 (by decide) kf194 (fun _ h9 => h9) rfl dX4_countConcept_26 ?_
    refine lv_iconst (v := 1) hx hb dX4_countConcept_29 (by decide) ?_
    refine lv_iadd hx hb dX4_countConcept_30 ?_
    refine va_put (D := (dC, dI)) (ci := 0) (v := .int (((iB 1) + (1 : Int32)))) (ty := .int) (C := RX0) (T := TX0) (N := 15) hx hb hts ki0 tyX0 tyX0_ok nmX0 hown hK hP hD hS 3 rfl rfl 1 (by decide) kf194 (fun _ h9 => h9) rfl (by decide +kernel) rfl rfl (Nat.le_of_ble_eq_true rfl) dX4_countConcept_31 (fun H locs hP hD hS => ?_)
    have hP : va_P (dC, dI) vwCl (zzR ad cy (ad 3) (ad 10) iR iT wT tx (us iB [(1, ((iB 1) + (1 : Int32)))]) lB aB iC aC) H := Eq.mp (congrArg (fun w => va_P (dC, dI) vwCl w H) (sfR_iB1 ad cy (ad 3) (ad 10) iR iT wT tx iB lB aB iC aC (((iB 1) + (1 : Int32))))) hP
    have hD : va_D A (zzR ad cy (ad 3) (ad 10) iR iT wT tx (us iB [(1, ((iB 1) + (1 : Int32)))]) lB aB iC aC) := Eq.mp (congrArg (fun w => va_D A w) (sfR_iB1 ad cy (ad 3) (ad 10) iR iT wT tx iB lB aB iC aC (((iB 1) + (1 : Int32))))) hD
    refine lv_iconst (v := 1) hx hb dX4_countConcept_34 (by decide) ?_
    have h' := Option.some.inj h
    rw [← hQQ]
    exact W.zret (v := (1 : Int32)) hx hb hr rfl (fun t ht hW => ⟨⟨(1 : Int32), (), rfl, by rw [← h'], by rw [← hWQ, ← h', ht]; exact hP, va_K.moved hW.alike hK⟩, hS.F ht⟩) hS.2.2 dX4_countConcept_35
  · have h := g_f h cz
    refine lv_aload_n hx hb dX4_countConcept_13 rfl (lv_at hl 0 rfl) ?_
    refine lv_iconst (v := 3) hx hb dX4_countConcept_14 (by decide) ?_
    obtain ⟨q15, e15, h⟩ := g_b h
    refine callVis (cc := cX4_countConcept) (w1 := zzR ad cy (ad 3) (ad 10) (us iR [(3, q15.2.1), (4, q15.2.2)]) iT wT tx iB lB aB iC aC) (As := [.int ((3 : Int32))]) (rest := []) ⟨hx, hb, hml, hown, hts⟩ (c_R_failHere l dC dI cy ad H.size ((3 : Int32)) iR iT wT tx iB lB aB iC aC q15 e15) (cwV 1 hts (goodV m_ml_X4_77 m_im_X4_failHere m_se_X4_failHere m_in_X4 m_cd_X4_failHere) rfl rfl rfl (by decide +kernel) ⟨Nat.le_of_ble_eq_true rfl, Nat.le_of_ble_eq_true rfl⟩) hN hK hP hD hS hA rfl 0 rfl rfl rfl hl.1 rfl (Nat.le_of_ble_eq_true rfl) dX4_countConcept_15 ⟨Nat.zero_le _, Nat.zero_le _⟩ (fun H locs hP hD hS => ?_)
    refine lv_pop hx hb dX4_countConcept_18 rfl ?_
    refine lv_iconst (v := 0) hx hb dX4_countConcept_19 (by decide) ?_
    have h' := Option.some.inj h
    rw [← hQQ]
    exact W.zret (v := (0 : Int32)) hx hb hr rfl (fun t ht hW => ⟨⟨(0 : Int32), (), rfl, by rw [← h'], by rw [← hWQ, ← h', ht]; exact hP, va_K.moved hW.alike hK⟩, hS.F ht⟩) hS.2.2 dX4_countConcept_20
