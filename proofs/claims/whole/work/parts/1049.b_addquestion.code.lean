def f_B_addQuestion (a1 : Int32) (iB7 : Int32) (iB11 : Int32) (aB6 : Nat → Int32) (aB10 : Nat → Int32) : Option (Int32 × Int32 × (Nat → Int32) × (Nat → Int32)) := if (12 : Int32) ≤ iB11 then (some (iB7, iB11, aB6, aB10)) else (if iB11 < 0 ∨ 12 ≤ iB11.toNatClampNeg then none else ((f_B_addStatement ((2 : Int32)) a1 ((0 : Int32)) iB7 aB6).bind fun q33 => (some (q33.2.1, (iB11 + (1 : Int32)), q33.2.2, (upd aB10 iB11.toNatClampNeg a1)))))
set_option maxHeartbeats 8000000 in
set_option maxRecDepth 100000 in
theorem c_B_addQuestion (l : Launch) (dC : Nat → ClassId) (dI : Nat → Nat → Nat) (cy : Nat → ClassId) (ad : Nat → Nat) (sz : Nat) (a1 : Int32) (iB : Nat → Int32) (lB : Nat → Nat → Int64) (aB : Nat → Nat → Int32) (iC : Nat → Int32) (aC : Nat → Nat → Int32) (q : Int32 × Int32 × (Nat → Int32) × (Nat → Int32)) (h : f_B_addQuestion a1 (iB 7) (iB 11) (aB 6) (aB 10) = some q) : Met l yX0_addQuestion wsX0_addQuestion ({ frames := 1, cells := 0, slots := 0, locals := 24 } : Room) (cP (dC, dI) cy [.ref (ad 0), .int a1] (zzB ad cy iB lB aB iC aC) sz) (cQv (dC, dI) cy (zzB ad cy (us iB [(7, q.1), (11, q.2.1)]) lB (us aB [(6, q.2.2.1), (10, q.2.2.2)]) iC aC) (va_A (zzB ad cy iB lB aB iC aC) sz)) 0 0 (va_A (zzB ad cy iB lB aB iC aC) sz) := by
  refine Met.ofW (cc := cX0_addQuestion) (maxL := 2) (ret := none) (by decide) rfl ?_
  intro p e s m args below meth c s₁ B hml hv
  obtain ⟨hav, hsz, hP, hK, hD0, hN⟩ := hv
  have hx := B.exec
  have hb := B.bytes
  have hr := B.returns
  have hts := atoms_spec (ws := wsX0_addQuestion) B.pre
  have hown : s.vm.findClass RX0 = some m.cls := findClass_of_methodNamed B.named
  have hlocks := B.notSynchronized
  subst hsz
  have hD := hD0.self (sz := s.heap.size)
  generalize hAe : va_A (zzB ad cy iB lB aB iC aC) s.heap.size = A at hD ⊢
  have hA : ∀ q : Nat, s.heap.size ≤ q → A q := fun q h => by rw [← hAe]; exact Or.inr h
  have hS : va_S A s.heap s.heap [] := va_S.rf
  generalize hWQ : (zzB ad cy (us iB [(7, q.1), (11, q.2.1)]) lB (us aB [(6, q.2.2.1), (10, q.2.2.2)]) iC aC) = WQ
  generalize hQQ : MQ below (cQv (dC, dI) cy WQ A) args s 0 0 A = QQ
  have hl := lv_entry ([.ref (ad 0), .int a1] : List Value) (n := 2) (Nat.le_of_ble_eq_true rfl)
  have hfr := lg_entry_eq m ([.ref (ad 0), .int a1] : List Value) 2
  rw [← hav] at hfr
  rw [hfr]
  clear hfr hav
  generalize (lg_sl ([.ref (ad 0), .int a1] : List Value) ++ List.replicate (2 - (lg_sl ([.ref (ad 0), .int a1] : List Value)).length) Slot.unset).toArray = ls at hl ⊢
  have hl : lv_has ls 2 [(0, .ref (ad 0)), (1, .int a1)] := hl
  have kf57 := hts _ (List.mem_cons_of_mem _ m_fl_X0_57)
  have ki0 := (fun w h => List.mem_cons_of_mem _ (i_X0 w h) : ∀ w ∈ u_ws RX0 TX0 15, w ∈ wsX0_addQuestion)
  have kf32 := hts _ (List.mem_cons_of_mem _ m_fl_X0_32)
  refine (?_ : ∀ (H : Heap) (locs : List Loc), va_P (dC, dI) vwCl (zzB ad cy iB lB aB iC aC) H → va_D A (zzB ad cy iB lB aB iC aC) → va_S A s.heap H locs → W p l e ({ frames := 1, cells := 0, slots := 0, locals := 24 } : Room) s m args below meth c H locs 0 0 QQ (F0 m 0 ls [])) s.heap [] hP hD hS
  clear hP hD hS
  intro H locs hP hD hS
  unfold f_B_addQuestion at h
  refine lv_aload_n hx hb dX0_addQuestion_0 rfl (lv_at hl 0 rfl) ?_
  refine va_get (D := (dC, dI)) (ci := 0) (v := .int (iB 11)) (C := RX0) (T := TX0) (N := 15) hx hb hts ki0 hown hK hP 0 rfl rfl 11 (by decide) kf57 (fun _ h9 => h9) rfl dX0_addQuestion_1 ?_
  refine lv_bipush (v := 12) hx hb dX0_addQuestion_4 (by decide) ?_
  refine lv_icmp_ge (tgt := 37) hx hb dX0_addQuestion_6 (by decide) (fun cz => ?_) (fun cz => ?_)
  · have h := g_t h cz
    have h' := Option.some.inj h
    rw [← hQQ]
    exact W.vret hx hb hr (fun t ht hW => ⟨⟨(), rfl, trivial, by rw [← hWQ, ← h', ht]; exact hP, va_K.moved hW.alike hK⟩, hS.F ht⟩) hS.2.2 dX0_addQuestion_37
  · have h := g_f h cz
    refine lv_aload_n hx hb dX0_addQuestion_9 rfl (lv_at hl 0 rfl) ?_
    refine va_get (D := (dC, dI)) (ci := 0) (v := .ref (ad 5)) (C := RX0) (T := TX0) (N := 15) hx hb hts ki0 hown hK hP 0 rfl rfl 10 (by decide) kf32 (fun _ h9 => h9) rfl dX0_addQuestion_10 ?_
    refine lv_aload_n hx hb dX0_addQuestion_13 rfl (lv_at hl 0 rfl) ?_
    refine va_get (D := (dC, dI)) (ci := 0) (v := .int (iB 11)) (C := RX0) (T := TX0) (N := 15) hx hb hts ki0 hown hK hP 0 rfl rfl 11 (by decide) kf57 (fun _ h9 => h9) rfl dX0_addQuestion_14 ?_
    refine lv_iload_n hx hb dX0_addQuestion_17 rfl (lv_at hl 1 rfl) ?_
    obtain ⟨g_18, h⟩ := g_n h
    refine va_iast (f := (aB 10)) hx hb hK hP hD hS 5 0 rfl rfl g_18 dX0_addQuestion_18 (fun H locs hP hD hS => ?_)
    have hP : va_P (dC, dI) vwCl (zzB ad cy iB lB (us aB [(10, (upd (aB 10) (iB 11).toNatClampNeg a1))]) iC aC) H := Eq.mp (congrArg (fun w => va_P (dC, dI) vwCl w H) (sfB_aB10 ad cy iB lB aB iC aC ((upd (aB 10) (iB 11).toNatClampNeg a1)))) hP
    have hD : va_D A (zzB ad cy iB lB (us aB [(10, (upd (aB 10) (iB 11).toNatClampNeg a1))]) iC aC) := Eq.mp (congrArg (fun w => va_D A w) (sfB_aB10 ad cy iB lB aB iC aC ((upd (aB 10) (iB 11).toNatClampNeg a1)))) hD
    refine lv_aload_n hx hb dX0_addQuestion_19 rfl (lv_at hl 0 rfl) ?_
    refine lv_dup hx hb dX0_addQuestion_20 rfl ?_
    refine va_get (D := (dC, dI)) (ci := 0) (v := .int (iB 11)) (C := RX0) (T := TX0) (N := 15) hx hb hts ki0 hown hK hP 0 rfl rfl 11 (by decide) kf57 (fun _ h9 => h9) rfl dX0_addQuestion_21 ?_
    refine lv_iconst (v := 1) hx hb dX0_addQuestion_24 (by decide) ?_
    refine lv_iadd hx hb dX0_addQuestion_25 ?_
    refine va_put (D := (dC, dI)) (ci := 0) (v := .int (((iB 11) + (1 : Int32)))) (ty := .int) (C := RX0) (T := TX0) (N := 15) hx hb hts ki0 tyX0 tyX0_ok nmX0 hown hK hP hD hS 0 rfl rfl 11 (by decide) kf57 (fun _ h9 => h9) rfl (by decide +kernel) rfl rfl (Nat.le_of_ble_eq_true rfl) dX0_addQuestion_26 (fun H locs hP hD hS => ?_)
    have hP : va_P (dC, dI) vwCl (zzB ad cy (us iB [(11, ((iB 11) + (1 : Int32)))]) lB (us aB [(10, (upd (aB 10) (iB 11).toNatClampNeg a1))]) iC aC) H := Eq.mp (congrArg (fun w => va_P (dC, dI) vwCl w H) (sfB_iB11 ad cy iB lB (us aB [(10, (upd (aB 10) (iB 11).toNatClampNeg a1))]) iC aC (((iB 11) + (1 : Int32))))) hP
    have hD : va_D A (zzB ad cy (us iB [(11, ((iB 11) + (1 : Int32)))]) lB (us aB [(10, (upd (aB 10) (iB 11).toNatClampNeg a1))]) iC aC) := Eq.mp (congrArg (fun w => va_D A w) (sfB_iB11 ad cy iB lB (us aB [(10, (upd (aB 10) (iB 11).toNatClampNeg a1))]) iC aC (((iB 11) + (1 : Int32))))) hD
    refine lv_aload_n hx hb dX0_addQuestion_29 rfl (lv_at hl 0 rfl) ?_
    refine lv_iconst (v := 2) hx hb dX0_addQuestion_30 (by decide) ?_
    refine lv_iload_n hx hb dX0_addQuestion_31 rfl (lv_at hl 1 rfl) ?_
    refine lv_iconst (v := 0) hx hb dX0_addQuestion_32 (by decide) ?_
    obtain ⟨q33, e33, h⟩ := g_b h
    refine callVis (cc := cX0_addQuestion) (w1 := zzB ad cy (us iB [(7, q33.2.1), (11, ((iB 11) + (1 : Int32)))]) lB (us aB [(6, q33.2.2), (10, (upd (aB 10) (iB 11).toNatClampNeg a1))]) iC aC) (As := [.int ((2 : Int32)), .int a1, .int ((0 : Int32))]) (rest := []) ⟨hx, hb, hml, hown, hts⟩ (c_B_addStatement l dC dI cy ad H.size ((2 : Int32)) a1 ((0 : Int32)) ((us iB [(11, ((iB 11) + (1 : Int32)))])) lB ((us aB [(10, (upd (aB 10) (iB 11).toNatClampNeg a1))])) iC aC q33 e33) (cwV 3 hts (goodV m_ml_X0_70 m_im_X0_addStatement m_se_X0_addStatement m_in_X0 m_cd_X0_addStatement) rfl rfl rfl (by decide +kernel) ⟨Nat.le_of_ble_eq_true rfl, Nat.le_of_ble_eq_true rfl⟩) hN hK hP hD hS hA rfl 0 rfl rfl rfl hl.1 rfl (Nat.le_of_ble_eq_true rfl) dX0_addQuestion_33 ⟨Nat.zero_le _, Nat.zero_le _⟩ (fun H locs hP hD hS => ?_)
    refine lv_pop hx hb dX0_addQuestion_36 rfl ?_
    have h' := Option.some.inj h
    rw [← hQQ]
    exact W.vret hx hb hr (fun t ht hW => ⟨⟨(), rfl, trivial, by rw [← hWQ, ← h', ht]; exact hP, va_K.moved hW.alike hK⟩, hS.F ht⟩) hS.2.2 dX0_addQuestion_37
