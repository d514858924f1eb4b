set_option maxHeartbeats 8000000 in
set_option maxRecDepth 100000 in
theorem c_R_fail (l : Launch) (dC : Nat → ClassId) (dI : Nat → Nat → Nat) (cy : Nat → ClassId) (ad : Nat → Nat) (sz : Nat) (a1 : Int32) (a2 : Int32) (iR : Nat → Int32) (iT : Nat → Int32) (wT : Int64) (tx : Nat → Int32) (iB : Nat → Int32) (lB : Nat → Nat → Int64) (aB : Nat → Nat → Int32) (iC : Nat → Int32) (aC : Nat → Nat → Int32) (q : Int32 × Int32 × Int32) (h : f_R_fail a1 a2 (iR 3) (iR 4) = some q) : Met l yX4_fail wsX4_fail ({ frames := 0, cells := 0, slots := 0, locals := 0 } : Room) (cP (dC, dI) cy [.ref (ad 0), .int a1, .int a2] (zzR ad cy (ad 3) (ad 10) iR iT wT tx iB lB aB iC aC) sz) (cQi (dC, dI) cy q.1 (zzR ad cy (ad 3) (ad 10) (us iR [(3, q.2.1), (4, q.2.2)]) iT wT tx iB lB aB iC aC) (va_A (zzR ad cy (ad 3) (ad 10) iR iT wT tx iB lB aB iC aC) sz)) 0 0 (va_A (zzR ad cy (ad 3) (ad 10) iR iT wT tx iB lB aB iC aC) sz) := by
  refine Met.ofW (cc := cX4_fail) (maxL := 3) (ret := (some .int)) (by decide) rfl ?_
  intro p e s m args below meth c s₁ B hml hv
  obtain ⟨hav, hsz, hP, hK, hD0, hN⟩ := hv
  have hx := B.exec
  have hb := B.bytes
  have hr := B.returns
  have hts := atoms_spec (ws := wsX4_fail) B.pre
  have hown : s.vm.findClass RX4 = some m.cls := findClass_of_methodNamed B.named
  have hlocks := B.notSynchronized
  subst hsz
  have hD := hD0.self (sz := s.heap.size)
  generalize hAe : va_A (zzR ad cy (ad 3) (ad 10) iR iT wT tx iB lB aB iC aC) s.heap.size = A at hD ⊢
  have hA : ∀ q : Nat, s.heap.size ≤ q → A q := fun q h => by rw [← hAe]; exact Or.inr h
  have hS : va_S A s.heap s.heap [] := va_S.rf
  generalize hWQ : (zzR ad cy (ad 3) (ad 10) (us iR [(3, q.2.1), (4, q.2.2)]) iT wT tx iB lB aB iC aC) = WQ
  generalize hQQ : MQ below (cQi (dC, dI) cy q.1 WQ A) args s 0 0 A = QQ
  have hl := lv_entry ([.ref (ad 0), .int a1, .int a2] : List Value) (n := 3) (Nat.le_of_ble_eq_true rfl)
  have hfr := lg_entry_eq m ([.ref (ad 0), .int a1, .int a2] : List Value) 3
  rw [← hav] at hfr
  rw [hfr]
  clear hfr hav
  generalize (lg_sl ([.ref (ad 0), .int a1, .int a2] : List Value) ++ List.replicate (3 - (lg_sl ([.ref (ad 0), .int a1, .int a2] : List Value)).length) Slot.unset).toArray = ls at hl ⊢
  have hl : lv_has ls 3 [(0, .ref (ad 0)), (1, .int a1), (2, .int a2)] := hl
  have kf38 := hts _ (List.mem_cons_of_mem _ m_fl_X4_38)
  have ki4 := (fun w h => List.mem_cons_of_mem _ (i_X4 w h) : ∀ w ∈ u_ws RX4 TX4 5, w ∈ wsX4_fail)
  have kf9 := hts _ (List.mem_cons_of_mem _ m_fl_X4_9)
  refine (?_ : ∀ (H : Heap) (locs : List Loc), va_P (dC, dI) vwCl (zzR ad cy (ad 3) (ad 10) iR iT wT tx iB lB aB iC aC) H → va_D A (zzR ad cy (ad 3) (ad 10) iR iT wT tx iB lB aB iC aC) → va_S A s.heap H locs → W p l e ({ frames := 0, cells := 0, slots := 0, locals := 0 } : Room) s m args below meth c H locs 0 0 QQ (F0 m 0 ls [])) s.heap [] hP hD hS
  clear hP hD hS
  intro H locs hP hD hS
  unfold f_R_fail at h
  refine lv_aload_n hx hb dX4_fail_0 rfl (lv_at hl 0 rfl) ?_
  refine lv_iload_n hx hb dX4_fail_1 rfl (lv_at hl 1 rfl) ?_
  refine va_put (D := (dC, dI)) (ci := 4) (v := .int a1) (ty := .int) (C := RX4) (T := TX4) (N := 5) hx hb hts ki4 tyX4 tyX4_ok nmX4 hown hK hP hD hS 0 rfl rfl 3 (by decide) kf38 (fun _ h9 => h9) rfl (by decide +kernel) rfl rfl (Nat.le_of_ble_eq_true rfl) dX4_fail_2 (fun H locs hP hD hS => ?_)
  have hP : va_P (dC, dI) vwCl (zzR ad cy (ad 3) (ad 10) (us iR [(3, a1)]) iT wT tx iB lB aB iC aC) H := Eq.mp (congrArg (fun w => va_P (dC, dI) vwCl w H) (sfR_iR3 ad cy (ad 3) (ad 10) iR iT wT tx iB lB aB iC aC a1)) hP
  have hD : va_D A (zzR ad cy (ad 3) (ad 10) (us iR [(3, a1)]) iT wT tx iB lB aB iC aC) := Eq.mp (congrArg (fun w => va_D A w) (sfR_iR3 ad cy (ad 3) (ad 10) iR iT wT tx iB lB aB iC aC a1)) hD
  refine lv_aload_n hx hb dX4_fail_5 rfl (lv_at hl 0 rfl) ?_
  refine lv_iload_n hx hb dX4_fail_6 rfl (lv_at hl 2 rfl) ?_
  refine va_put (D := (dC, dI)) (ci := 4) (v := .int a2) (ty := .int) (C := RX4) (T := TX4) (N := 5) hx hb hts ki4 tyX4 tyX4_ok nmX4 hown hK hP hD hS 0 rfl rfl 4 (by decide) kf9 (fun _ h9 => h9) rfl (by decide +kernel) rfl rfl (Nat.le_of_ble_eq_true rfl) dX4_fail_7 (fun H locs hP hD hS => ?_)
  have hP : va_P (dC, dI) vwCl (zzR ad cy (ad 3) (ad 10) (us iR [(3, a1), (4, a2)]) iT wT tx iB lB aB iC aC) H := Eq.mp (congrArg (fun w => va_P (dC, dI) vwCl w H) (stR_iR4 ad cy (ad 3) (ad 10) iR iT wT tx iB lB aB iC aC [(3, a1)] a2)) hP
  have hD : va_D A (zzR ad cy (ad 3) (ad 10) (us iR [(3, a1), (4, a2)]) iT wT tx iB lB aB iC aC) := Eq.mp (congrArg (fun w => va_D A w) (stR_iR4 ad cy (ad 3) (ad 10) iR iT wT tx iB lB aB iC aC [(3, a1)] a2)) hD
  refine lv_iconst (v := (-1)) hx hb dX4_fail_10 (by decide) ?_
  have h' := Option.some.inj h
  rw [← hQQ]
  exact W.iret (v := (-1 : Int32)) hx hb hr (fun t ht hW => ⟨⟨(-1 : Int32), (), rfl, by rw [← h'], by rw [← hWQ, ← h', ht]; exact hP, va_K.moved hW.alike hK⟩, hS.F ht⟩) hS.2.2 dX4_fail_11
set_option maxHeartbeats 8000000 in
set_option maxRecDepth 100000 in
theorem c_R_failHere (l : Launch) (dC : Nat → ClassId) (dI : Nat → Nat → Nat) (cy : Nat → ClassId) (ad : Nat → Nat) (sz : Nat) (a1 : Int32) (iR : Nat → Int32) (iT : Nat → Int32) (wT : Int64) (tx : Nat → Int32) (iB : Nat → Int32) (lB : Nat → Nat → Int64) (aB : Nat → Nat → Int32) (iC : Nat → Int32) (aC : Nat → Nat → Int32) (q : Int32 × Int32 × Int32) (h : f_R_failHere a1 (iR 3) (iR 4) (iT 3) = some q) : Met l yX4_failHere wsX4_failHere ({ frames := 1, cells := 0, slots := 0, locals := 22 } : Room) (cP (dC, dI) cy [.ref (ad 0), .int a1] (zzR ad cy (ad 3) (ad 10) iR iT wT tx iB lB aB iC aC) sz) (cQi (dC, dI) cy q.1 (zzR ad cy (ad 3) (ad 10) (us iR [(3, q.2.1), (4, q.2.2)]) iT wT tx iB lB aB iC aC) (va_A (zzR ad cy (ad 3) (ad 10) iR iT wT tx iB lB aB iC aC) sz)) 0 0 (va_A (zzR ad cy (ad 3) (ad 10) iR iT wT tx iB lB aB iC aC) sz) := by
  refine Met.ofW (cc := cX4_failHere) (maxL := 2) (ret := (some .int)) (by decide) rfl ?_
  intro p e s m args below meth c s₁ B hml hv
  obtain ⟨hav, hsz, hP, hK, hD0, hN⟩ := hv
  have hx := B.exec
  have hb := B.bytes
  have hr := B.returns
  have hts := atoms_spec (ws := wsX4_failHere) B.pre
  have hown : s.vm.findClass RX4 = some m.cls := findClass_of_methodNamed B.named
  have hlocks := B.notSynchronized
  subst hsz
  have hD := hD0.self (sz := s.heap.size)
  generalize hAe : va_A (zzR ad cy (ad 3) (ad 10) iR iT wT tx iB lB aB iC aC) s.heap.size = A at hD ⊢
  have hA : ∀ q : Nat, s.heap.size ≤ q → A q := fun q h => by rw [← hAe]; exact Or.inr h
  have hS : va_S A s.heap s.heap [] := va_S.rf
  generalize hWQ : (zzR ad cy (ad 3) (ad 10) (us iR [(3, q.2.1), (4, q.2.2)]) iT wT tx iB lB aB iC aC) = WQ
  generalize hQQ : MQ below (cQi (dC, dI) cy q.1 WQ A) args s 0 0 A = QQ
  have hl := lv_entry ([.ref (ad 0), .int a1] : List Value) (n := 2) (Nat.le_of_ble_eq_true rfl)
  have hfr := lg_entry_eq m ([.ref (ad 0), .int a1] : List Value) 2
  rw [← hav] at hfr
  rw [hfr]
  clear hfr hav
  generalize (lg_sl ([.ref (ad 0), .int a1] : List Value) ++ List.replicate (2 - (lg_sl ([.ref (ad 0), .int a1] : List Value)).length) Slot.unset).toArray = ls at hl ⊢
  have hl : lv_has ls 2 [(0, .ref (ad 0)), (1, .int a1)] := hl
  have kf20 := hts _ (List.mem_cons_of_mem _ m_fl_X4_20)
  have ki4 := (fun w h => List.mem_cons_of_mem _ (i_X4 w h) : ∀ w ∈ u_ws RX4 TX4 5, w ∈ wsX4_failHere)
  have kf70 := hts _ (List.mem_cons_of_mem _ m_fl_X4_70)
  have ki5 := (fun w h => List.mem_cons_of_mem _ (i_X5 w h) : ∀ w ∈ u_ws RX5 TX5 6, w ∈ wsX4_failHere)
  refine (?_ : ∀ (H : Heap) (locs : List Loc), va_P (dC, dI) vwCl (zzR ad cy (ad 3) (ad 10) iR iT wT tx iB lB aB iC aC) H → va_D A (zzR ad cy (ad 3) (ad 10) iR iT wT tx iB lB aB iC aC) → va_S A s.heap H locs → W p l e ({ frames := 1, cells := 0, slots := 0, locals := 22 } : Room) s m args below meth c H locs 0 0 QQ (F0 m 0 ls [])) s.heap [] hP hD hS
  clear hP hD hS
  intro H locs hP hD hS
  unfold f_R_failHere at h
  refine lv_aload_n hx hb dX4_failHere_0 rfl (lv_at hl 0 rfl) ?_
  refine lv_iload_n hx hb dX4_failHere_1 rfl (lv_at hl 1 rfl) ?_
  refine lv_aload_n hx hb dX4_failHere_2 rfl (lv_at hl 0 rfl) ?_
  refine va_get (D := (dC, dI)) (ci := 4) (v := .ref (ad 1)) (C := RX4) (T := TX4) (N := 5) hx hb hts ki4 hown hK hP 0 rfl rfl 0 (by decide) kf20 (fun _ h9 => h9) rfl dX4_failHere_3 ?_
  refine va_get (D := (dC, dI)) (ci := 5) (v := .int (iT 3)) (C := RX5) (T := TX5) (N := 6) hx hb hts ki5 hown hK hP 1 rfl rfl 3 (by decide) kf70 (fun _ h9 => h9) rfl dX4_failHere_6 ?_
  obtain ⟨q9, e9, h⟩ := g_b h
  refine callVis (cc := cX4_failHere) (w1 := zzR ad cy (ad 3) (ad 10) (us iR [(3, q9.2.1), (4, q9.2.2)]) iT wT tx iB lB aB iC aC) (As := [.int a1, .int (iT 3)]) (rest := []) ⟨hx, hb, hml, hown, hts⟩ (c_R_fail l dC dI cy ad H.size a1 (iT 3) iR iT wT tx iB lB aB iC aC q9 e9) (cwV 2 hts (goodV m_ml_X4_73 m_im_X4_fail m_se_X4_fail m_in_X4 m_cd_X4_fail) rfl rfl rfl (by decide +kernel) ⟨Nat.le_of_ble_eq_true rfl, Nat.le_of_ble_eq_true rfl⟩) hN hK hP hD hS hA rfl 0 rfl rfl rfl hl.1 rfl (Nat.le_of_ble_eq_true rfl) dX4_failHere_9 ⟨Nat.zero_le _, Nat.zero_le _⟩ (fun H locs hP hD hS => ?_)
  have h' := Option.some.inj h
  rw [← hQQ]
  exact W.iret (v := q9.1) hx hb hr (fun t ht hW => ⟨⟨q9.1, (), rfl, by rw [← h'], by rw [← hWQ, ← h', ht]; exact hP, va_K.moved hW.alike hK⟩, hS.F ht⟩) hS.2.2 dX4_failHere_12
set_option maxHeartbeats 8000000 in
set_option maxRecDepth 100000 in
theorem c_B_addRole (l : Launch) (dC : Nat → ClassId) (dI : Nat → Nat → Nat) (cy : Nat → ClassId) (ad : Nat → Nat) (sz : Nat) (a1 : Int64) (iB : Nat → Int32) (lB : Nat → Nat → Int64) (aB : Nat → Nat → Int32) (iC : Nat → Int32) (aC : Nat → Nat → Int32) (q : Int32 × Int32 × (Nat → Int64)) (h : f_B_addRole a1 (iB 5) (lB 4) = some q) : Met l yX0_addRole wsX0_addRole ({ frames := 0, cells := 0, slots := 0, locals := 0 } : Room) (cP (dC, dI) cy [.ref (ad 0), .long a1] (zzB ad cy iB lB aB iC aC) sz) (cQi (dC, dI) cy q.1 (zzB ad cy (us iB [(5, q.2.1)]) (us lB [(4, q.2.2)]) aB iC aC) (va_A (zzB ad cy iB lB aB iC aC) sz)) 0 0 (va_A (zzB ad cy iB lB aB iC aC) sz) := by
  refine Met.ofW (cc := cX0_addRole) (maxL := 3) (ret := (some .int)) (by decide) rfl ?_
  intro p e s m args below meth c s₁ B hml hv
  obtain ⟨hav, hsz, hP, hK, hD0, hN⟩ := hv
  have hx := B.exec
  have hb := B.bytes
  have hr := B.returns
  have hts := atoms_spec (ws := wsX0_addRole) B.pre
  have hown : s.vm.findClass RX0 = some m.cls := findClass_of_methodNamed B.named
  have hlocks := B.notSynchronized
  subst hsz
  have hD := hD0.self (sz := s.heap.size)
  generalize hAe : va_A (zzB ad cy iB lB aB iC aC) s.heap.size = A at hD ⊢
  have hA : ∀ q : Nat, s.heap.size ≤ q → A q := fun q h => by rw [← hAe]; exact Or.inr h
  have hS : va_S A s.heap s.heap [] := va_S.rf
  generalize hWQ : (zzB ad cy (us iB [(5, q.2.1)]) (us lB [(4, q.2.2)]) aB iC aC) = WQ
  generalize hQQ : MQ below (cQi (dC, dI) cy q.1 WQ A) args s 0 0 A = QQ
  have hl := lv_entry ([.ref (ad 0), .long a1] : List Value) (n := 3) (Nat.le_of_ble_eq_true rfl)
  have hfr := lg_entry_eq m ([.ref (ad 0), .long a1] : List Value) 3
  rw [← hav] at hfr
  rw [hfr]
  clear hfr hav
  generalize (lg_sl ([.ref (ad 0), .long a1] : List Value) ++ List.replicate (3 - (lg_sl ([.ref (ad 0), .long a1] : List Value)).length) Slot.unset).toArray = ls at hl ⊢
  have hl : lv_has ls 3 [(0, .ref (ad 0)), (1, .long a1)] := hl
  have kf48 := hts _ (List.mem_cons_of_mem _ m_fl_X0_48)
  have ki0 := (fun w h => List.mem_cons_of_mem _ (i_X0 w h) : ∀ w ∈ u_ws RX0 TX0 15, w ∈ wsX0_addRole)
  have kf22 := hts _ (List.mem_cons_of_mem _ m_fl_X0_22)
  refine (?_ : ∀ (H : Heap) (locs : List Loc), va_P (dC, dI) vwCl (zzB ad cy iB lB aB iC aC) H → va_D A (zzB ad cy iB lB aB iC aC) → va_S A s.heap H locs → W p l e ({ frames := 0, cells := 0, slots := 0, locals := 0 } : Room) s m args below meth c H locs 0 0 QQ (F0 m 0 ls [])) s.heap [] hP hD hS
  clear hP hD hS
  intro H locs hP hD hS
  unfold f_B_addRole at h
  refine lv_aload_n hx hb dX0_addRole_0 rfl (lv_at hl 0 rfl) ?_
  refine va_get (D := (dC, dI)) (ci := 0) (v := .int (iB 5)) (C := RX0) (T := TX0) (N := 15) hx hb hts ki0 hown hK hP 0 rfl rfl 5 (by decide) kf48 (fun _ h9 => h9) rfl dX0_addRole_1 ?_
  refine lv_iconst (v := 3) hx hb dX0_addRole_4 (by decide) ?_
  refine lv_icmp_lt (tgt := 10) hx hb dX0_addRole_5 (by decide) (fun cz => ?_) (fun cz => ?_)
  · have h := g_t h cz
    refine lv_aload_n hx hb dX0_addRole_10 rfl (lv_at hl 0 rfl) ?_
    refine va_get (D := (dC, dI)) (ci := 0) (v := .ref (ad 2)) (C := RX0) (T := TX0) (N := 15) hx hb hts ki0 hown hK hP 0 rfl rfl 4 (by decide) kf22 (fun _ h9 => h9) rfl dX0_addRole_11 ?_
    refine lv_aload_n hx hb dX0_addRole_14 rfl (lv_at hl 0 rfl) ?_
    refine va_get (D := (dC, dI)) (ci := 0) (v := .int (iB 5)) (C := RX0) (T := TX0) (N := 15) hx hb hts ki0 hown hK hP 0 rfl rfl 5 (by decide) kf48 (fun _ h9 => h9) rfl dX0_addRole_15 ?_
    refine lv_lload_n hx hb dX0_addRole_18 rfl (lv_at hl 1 rfl) ?_
    obtain ⟨g_7, h⟩ := g_n h
    refine va_last (f := (lB 4)) hx hb hK hP hD hS 2 2 rfl rfl g_7 dX0_addRole_19 (fun H locs hP hD hS => ?_)
    have hP : va_P (dC, dI) vwCl (zzB ad cy iB (us lB [(4, (vp_updL (lB 4) (iB 5).toNatClampNeg a1))]) aB iC aC) H := Eq.mp (congrArg (fun w => va_P (dC, dI) vwCl w H) (sfB_lB4 ad cy iB lB aB iC aC ((vp_updL (lB 4) (iB 5).toNatClampNeg a1)))) hP
    have hD : va_D A (zzB ad cy iB (us lB [(4, (vp_updL (lB 4) (iB 5).toNatClampNeg a1))]) aB iC aC) := Eq.mp (congrArg (fun w => va_D A w) (sfB_lB4 ad cy iB lB aB iC aC ((vp_updL (lB 4) (iB 5).toNatClampNeg a1)))) hD
    refine lv_aload_n hx hb dX0_addRole_20 rfl (lv_at hl 0 rfl) ?_
    refine lv_dup hx hb dX0_addRole_21 rfl ?_
    refine va_get (D := (dC, dI)) (ci := 0) (v := .int (iB 5)) (C := RX0) (T := TX0) (N := 15) hx hb hts ki0 hown hK hP 0 rfl rfl 5 (by decide) kf48 (fun _ h9 => h9) rfl dX0_addRole_22 ?_
    refine lv_iconst (v := 1) hx hb dX0_addRole_25 (by decide) ?_
    refine lv_iadd hx hb dX0_addRole_26 ?_
    refine va_put (D := (dC, dI)) (ci := 0) (v := .int (((iB 5) + (1 : Int32)))) (ty := .int) (C := RX0) (T := TX0) (N := 15) hx hb hts ki0 tyX0 tyX0_ok nmX0 hown hK hP hD hS 0 rfl rfl 5 (by decide) kf48 (fun _ h9 => h9) rfl (by decide +kernel) rfl rfl (Nat.le_of_ble_eq_true rfl) dX0_addRole_27 (fun H locs hP hD hS => ?_)
    have hP : va_P (dC, dI) vwCl (zzB ad cy (us iB [(5, ((iB 5) + (1 : Int32)))]) (us lB [(4, (vp_updL (lB 4) (iB 5).toNatClampNeg a1))]) aB iC aC) H := Eq.mp (congrArg (fun w => va_P (dC, dI) vwCl w H) (sfB_iB5 ad cy iB (us lB [(4, (vp_updL (lB 4) (iB 5).toNatClampNeg a1))]) aB iC aC (((iB 5) + (1 : Int32))))) hP
    have hD : va_D A (zzB ad cy (us iB [(5, ((iB 5) + (1 : Int32)))]) (us lB [(4, (vp_updL (lB 4) (iB 5).toNatClampNeg a1))]) aB iC aC) := Eq.mp (congrArg (fun w => va_D A w) (sfB_iB5 ad cy iB (us lB [(4, (vp_updL (lB 4) (iB 5).toNatClampNeg a1))]) aB iC aC (((iB 5) + (1 : Int32))))) hD
    refine lv_aload_n hx hb dX0_addRole_30 rfl (lv_at hl 0 rfl) ?_
    refine va_get (D := (dC, dI)) (ci := 0) (v := .int (((iB 5) + (1 : Int32)))) (C := RX0) (T := TX0) (N := 15) hx hb hts ki0 hown hK hP 0 rfl rfl 5 (by decide) kf48 (fun _ h9 => h9) rfl dX0_addRole_31 ?_
    refine lv_iconst (v := 1) hx hb dX0_addRole_34 (by decide) ?_
    refine lv_isub hx hb dX0_addRole_35 ?_
    have h' := Option.some.inj h
    rw [← hQQ]
    exact W.iret (v := (((iB 5) + (1 : Int32)) - (1 : Int32))) hx hb hr (fun t ht hW => ⟨⟨(((iB 5) + (1 : Int32)) - (1 : Int32)), (), rfl, by rw [← h'], by rw [← hWQ, ← h', ht]; exact hP, va_K.moved hW.alike hK⟩, hS.F ht⟩) hS.2.2 dX0_addRole_36
  · have h := g_f h cz
    refine lv_iconst (v := (-1)) hx hb dX0_addRole_8 (by decide) ?_
    have h' := Option.some.inj h
    rw [← hQQ]
    exact W.iret (v := (-1 : Int32)) hx hb hr (fun t ht hW => ⟨⟨(-1 : Int32), (), rfl, by rw [← h'], by rw [← hWQ, ← h', ht]; exact hP, va_K.moved hW.alike hK⟩, hS.F ht⟩) hS.2.2 dX0_addRole_9
set_option maxHeartbeats 8000000 in
set_option maxRecDepth 100000 in
theorem c_B_findName (l : Launch) (dC : Nat → ClassId) (dI : Nat → Nat → Nat) (cy : Nat → ClassId) (ad : Nat → Nat) (sz : Nat) (N : Nat) (a1 : Int64) (iB : Nat → Int32) (lB : Nat → Nat → Int64) (aB : Nat → Nat → Int32) (iC : Nat → Int32) (aC : Nat → Nat → Int32) (q : Int32) (h : f_B_findName N a1 (iB 3) (lB 2) = some q) : Met l yX0_findName wsX0_findName ({ frames := 1, cells := 0, slots := 0, locals := 24 } : Room) (cP (dC, dI) cy [.ref (ad 0), .long a1] (zzB ad cy iB lB aB iC aC) sz) (cQi (dC, dI) cy q (zzB ad cy iB lB aB iC aC) (va_A (zzB ad cy iB lB aB iC aC) sz)) 0 0 (va_A (zzB ad cy iB lB aB iC aC) sz) := by
  refine Met.ofW (cc := cX0_findName) (maxL := 3) (ret := (some .int)) (by decide) rfl ?_
  intro p e s m args below meth c s₁ B hml hv
  obtain ⟨hav, hsz, hP, hK, hD0, hN⟩ := hv
  have hx := B.exec
  have hb := B.bytes
  have hr := B.returns
  have hts := atoms_spec (ws := wsX0_findName) B.pre
  have hown : s.vm.findClass RX0 = some m.cls := findClass_of_methodNamed B.named
  have hlocks := B.notSynchronized
  subst hsz
  have hD := hD0.self (sz := s.heap.size)
  generalize hAe : va_A (zzB ad cy iB lB aB iC aC) s.heap.size = A at hD ⊢
  have hA : ∀ q : Nat, s.heap.size ≤ q → A q := fun q h => by rw [← hAe]; exact Or.inr h
  have hS : va_S A s.heap s.heap [] := va_S.rf
  generalize hWQ : (zzB ad cy iB lB aB iC aC) = WQ
  generalize hQQ : MQ below (cQi (dC, dI) cy q WQ A) args s 0 0 A = QQ
  have hl := lv_entry ([.ref (ad 0), .long a1] : List Value) (n := 3) (Nat.le_of_ble_eq_true rfl)
  have hfr := lg_entry_eq m ([.ref (ad 0), .long a1] : List Value) 3
  rw [← hav] at hfr
  rw [hfr]
  clear hfr hav
  generalize (lg_sl ([.ref (ad 0), .long a1] : List Value) ++ List.replicate (3 - (lg_sl ([.ref (ad 0), .long a1] : List Value)).length) Slot.unset).toArray = ls at hl ⊢
  have hl : lv_has ls 3 [(0, .ref (ad 0)), (1, .long a1)] := hl
  have kf18 := hts _ (List.mem_cons_of_mem _ m_fl_X0_18)
  have ki0 := (fun w h => List.mem_cons_of_mem _ (i_X0 w h) : ∀ w ∈ u_ws RX0 TX0 15, w ∈ wsX0_findName)
  have kf45 := hts _ (List.mem_cons_of_mem _ m_fl_X0_45)
  refine (?_ : ∀ (H : Heap) (locs : List Loc), va_P (dC, dI) vwCl (zzB ad cy iB lB aB iC aC) H → va_D A (zzB ad cy iB lB aB iC aC) → va_S A s.heap H locs → W p l e ({ frames := 1, cells := 0, slots := 0, locals := 24 } : Room) s m args below meth c H locs 0 0 QQ (F0 m 0 ls [])) s.heap [] hP hD hS
  clear hP hD hS
  intro H locs hP hD hS
  unfold f_B_findName at h
  refine lv_aload_n hx hb dX0_findName_0 rfl (lv_at hl 0 rfl) ?_
  refine va_get (D := (dC, dI)) (ci := 0) (v := .ref (ad 1)) (C := RX0) (T := TX0) (N := 15) hx hb hts ki0 hown hK hP 0 rfl rfl 2 (by decide) kf18 (fun _ h9 => h9) rfl dX0_findName_1 ?_
  refine lv_aload_n hx hb dX0_findName_4 rfl (lv_at hl 0 rfl) ?_
  refine va_get (D := (dC, dI)) (ci := 0) (v := .int (iB 3)) (C := RX0) (T := TX0) (N := 15) hx hb hts ki0 hown hK hP 0 rfl rfl 3 (by decide) kf45 (fun _ h9 => h9) rfl dX0_findName_5 ?_
  refine lv_lload_n hx hb dX0_findName_8 rfl (lv_at hl 1 rfl) ?_
  obtain ⟨q9, e9, h⟩ := g_b h
  refine callSi (cc := cX0_findName) (ws' := zzB ad cy iB lB aB iC aC) (As := [.ref (ad 1), .int (iB 3), .long a1]) (rest := []) ⟨hx, hb, hml, hown, hts⟩ (c_B_find l dC dI cy (fun i => ad (i + 1)) H.size N 5 (iB 3) a1 (lB 2) q9 e9) (va_cwS 3 hts (goodS m_ml_X0_66 m_st_X0_find m_in_X0 m_cd_X0_find) rfl rfl rfl (by decide +kernel) ⟨Nat.le_of_ble_eq_true rfl, Nat.le_of_ble_eq_true rfl⟩) hN hK hP hD hS hA [1] [none, some 0, none, none, none, none, none, none, none, none, none, none, none, none, none, none] rfl rfl rfl rfl rfl rfl rfl hl.1 rfl (Nat.le_of_ble_eq_true rfl) dX0_findName_9 ⟨Nat.zero_le _, Nat.zero_le _⟩ (fun H locs hP hD hS => ?_)
  have h' := Option.some.inj h
  rw [← hQQ]
  exact W.iret (v := q9) hx hb hr (fun t ht hW => ⟨⟨q9, (), rfl, by rw [← h'], by rw [← hWQ, ht]; exact hP, va_K.moved hW.alike hK⟩, hS.F ht⟩) hS.2.2 dX0_findName_12
set_option maxHeartbeats 8000000 in
set_option maxRecDepth 100000 in
theorem c_R_misplaced (l : Launch) (dC : Nat → ClassId) (dI : Nat → Nat → Nat) (cy : Nat → ClassId) (ad : Nat → Nat) (sz : Nat) (iR : Nat → Int32) (iT : Nat → Int32) (wT : Int64) (tx : Nat → Int32) (iB : Nat → Int32) (lB : Nat → Nat → Int64) (aB : Nat → Nat → Int32) (iC : Nat → Int32) (aC : Nat → Nat → Int32) (q : Int32 × Int32 × Int32) (h : f_R_misplaced (iR 3) (iR 4) (iT 3) (iT 4) = some q) : Met l yX4_misplaced wsX4_misplaced ({ frames := 2, cells := 0, slots := 0, locals := 43 } : Room) (cP (dC, dI) cy [.ref (ad 0)] (zzR ad cy (ad 3) (ad 10) iR iT wT tx iB lB aB iC aC) sz) (cQi (dC, dI) cy q.1 (zzR ad cy (ad 3) (ad 10) (us iR [(3, q.2.1), (4, q.2.2)]) iT wT tx iB lB aB iC aC) (va_A (zzR ad cy (ad 3) (ad 10) iR iT wT tx iB lB aB iC aC) sz)) 0 0 (va_A (zzR ad cy (ad 3) (ad 10) iR iT wT tx iB lB aB iC aC) sz) := by
  refine Met.ofW (cc := cX4_misplaced) (maxL := 1) (ret := (some .int)) (by decide) rfl ?_
  intro p e s m args below meth c s₁ B hml hv
  obtain ⟨hav, hsz, hP, hK, hD0, hN⟩ := hv
  have hx := B.exec
  have hb := B.bytes
  have hr := B.returns
  have hts := atoms_spec (ws := wsX4_misplaced) B.pre
  have hown : s.vm.findClass RX4 = some m.cls := findClass_of_methodNamed B.named
  have hlocks := B.notSynchronized
  subst hsz
  have hD := hD0.self (sz := s.heap.size)
  generalize hAe : va_A (zzR ad cy (ad 3) (ad 10) iR iT wT tx iB lB aB iC aC) s.heap.size = A at hD ⊢
  have hA : ∀ q : Nat, s.heap.size ≤ q → A q := fun q h => by rw [← hAe]; exact Or.inr h
  have hS : va_S A s.heap s.heap [] := va_S.rf
  generalize hWQ : (zzR ad cy (ad 3) (ad 10) (us iR [(3, q.2.1), (4, q.2.2)]) iT wT tx iB lB aB iC aC) = WQ
  generalize hQQ : MQ below (cQi (dC, dI) cy q.1 WQ A) args s 0 0 A = QQ
  have hl := lv_entry ([.ref (ad 0)] : List Value) (n := 1) (Nat.le_of_ble_eq_true rfl)
  have hfr := lg_entry_eq m ([.ref (ad 0)] : List Value) 1
  rw [← hav] at hfr
  rw [hfr]
  clear hfr hav
  generalize (lg_sl ([.ref (ad 0)] : List Value) ++ List.replicate (1 - (lg_sl ([.ref (ad 0)] : List Value)).length) Slot.unset).toArray = ls at hl ⊢
  have hl : lv_has ls 1 [(0, .ref (ad 0))] := hl
  have kf20 := hts _ (List.mem_cons_of_mem _ m_fl_X4_20)
  have ki4 := (fun w h => List.mem_cons_of_mem _ (i_X4 w h) : ∀ w ∈ u_ws RX4 TX4 5, w ∈ wsX4_misplaced)
  have kf45 := hts _ (List.mem_cons_of_mem _ m_fl_X4_45)
  have ki5 := (fun w h => List.mem_cons_of_mem _ (i_X5 w h) : ∀ w ∈ u_ws RX5 TX5 6, w ∈ wsX4_misplaced)
  refine (?_ : ∀ (H : Heap) (locs : List Loc), va_P (dC, dI) vwCl (zzR ad cy (ad 3) (ad 10) iR iT wT tx iB lB aB iC aC) H → va_D A (zzR ad cy (ad 3) (ad 10) iR iT wT tx iB lB aB iC aC) → va_S A s.heap H locs → W p l e ({ frames := 2, cells := 0, slots := 0, locals := 43 } : Room) s m args below meth c H locs 0 0 QQ (F0 m 0 ls [])) s.heap [] hP hD hS
  clear hP hD hS
  have B16 : ∀ (s1 : Int32) (H : Heap) (locs : List Loc) (ls : Array Slot), f_R_misplaced_16 (iR 3) (iR 4) (iT 3) (iT 4) s1 = some q → va_P (dC, dI) vwCl (zzR ad cy (ad 3) (ad 10) iR iT wT tx iB lB aB iC aC) H → va_D A (zzR ad cy (ad 3) (ad 10) iR iT wT tx iB lB aB iC aC) → va_S A s.heap H locs → lv_has ls 1 [] → W p l e ({ frames := 2, cells := 0, slots := 0, locals := 43 } : Room) s m args below meth c H locs 0 0 QQ (F0 m 16 ls [.int s1, .ref (ad 0)]) := by
    intro s1 H locs ls h hP hD hS hl
    unfold f_R_misplaced_16 at h
    obtain ⟨q16, e16, h⟩ := g_b h
    refine callVis (cc := cX4_misplaced) (w1 := zzR ad cy (ad 3) (ad 10) (us iR [(3, q16.2.1), (4, q16.2.2)]) iT wT tx iB lB aB iC aC) (As := [.int s1]) (rest := []) ⟨hx, hb, hml, hown, hts⟩ (c_R_failHere l dC dI cy ad H.size s1 iR iT wT tx iB lB aB iC aC q16 e16) (cwV 1 hts (goodV m_ml_X4_77 m_im_X4_failHere m_se_X4_failHere m_in_X4 m_cd_X4_failHere) rfl rfl rfl (by decide +kernel) ⟨Nat.le_of_ble_eq_true rfl, Nat.le_of_ble_eq_true rfl⟩) hN hK hP hD hS hA rfl 0 rfl rfl rfl hl.1 rfl (Nat.le_of_ble_eq_true rfl) dX4_misplaced_16 ⟨Nat.zero_le _, Nat.zero_le _⟩ (fun H locs hP hD hS => ?_)
    have h' := Option.some.inj h
    rw [← hQQ]
    exact W.iret (v := q16.1) hx hb hr (fun t ht hW => ⟨⟨q16.1, (), rfl, by rw [← h'], by rw [← hWQ, ← h', ht]; exact hP, va_K.moved hW.alike hK⟩, hS.F ht⟩) hS.2.2 dX4_misplaced_19
  intro H locs hP hD hS
  unfold f_R_misplaced at h
  refine lv_aload_n hx hb dX4_misplaced_0 rfl (lv_at hl 0 rfl) ?_
  refine lv_aload_n hx hb dX4_misplaced_1 rfl (lv_at hl 0 rfl) ?_
  refine va_get (D := (dC, dI)) (ci := 4) (v := .ref (ad 1)) (C := RX4) (T := TX4) (N := 5) hx hb hts ki4 hown hK hP 0 rfl rfl 0 (by decide) kf20 (fun _ h9 => h9) rfl dX4_misplaced_2 ?_
  refine va_get (D := (dC, dI)) (ci := 5) (v := .int (iT 4)) (C := RX5) (T := TX5) (N := 6) hx hb hts ki5 hown hK hP 1 rfl rfl 4 (by decide) kf45 (fun _ h9 => h9) rfl dX4_misplaced_5 ?_
  refine lv_if_ne (tgt := 15) hx hb dX4_misplaced_8 (by decide) (fun cz => ?_) (fun cz => ?_)
  · have h := g_f h cz
    refine lv_iconst (v := 2) hx hb dX4_misplaced_15 (by decide) ?_
    exact B16 ((2 : Int32)) H locs ls h hP hD hS (lv_sub hl [] rfl)
  · have h := g_t h cz
    refine lv_iconst (v := 1) hx hb dX4_misplaced_11 (by decide) ?_
    refine lv_goto (tgt := 16) hx hb dX4_misplaced_12 (by decide) ?_
    exact B16 ((1 : Int32)) H locs ls h hP hD hS (lv_sub hl [] rfl)
set_option maxHeartbeats 8000000 in
set_option maxRecDepth 100000 in
theorem c_R_takeRole (l : Launch) (dC : Nat → ClassId) (dI : Nat → Nat → Nat) (cy : Nat → ClassId) (ad : Nat → Nat) (sz : Nat) (N : Nat) (iR : Nat → Int32) (iT : Nat → Int32) (wT : Int64) (tx : Nat → Int32) (iB : Nat → Int32) (lB : Nat → Nat → Int64) (aB : Nat → Nat → Int32) (iC : Nat → Int32) (aC : Nat → Nat → Int32) (q : Int32 × Int32 × Int32 × Int32 × Int32 × Int32 × Int64 × Int32 × (Nat → Int64)) (h : f_R_takeRole N (iR 3) (iR 4) (iT 1) (iT 2) (iT 3) (iT 4) wT tx (iB 3) (iB 5) (lB 2) (lB 4) = some q) : Met l yX4_takeRole wsX4_takeRole ({ frames := 3, cells := 0, slots := 0, locals := 63 } : Room) (cP (dC, dI) cy [.ref (ad 0)] (zzR ad cy (ad 3) (ad 10) iR iT wT tx iB lB aB iC aC) sz) (cQi (dC, dI) cy q.1 (zzR ad cy (ad 3) (ad 10) (us iR [(3, q.2.1), (4, q.2.2.1)]) (us iT [(2, q.2.2.2.1), (3, q.2.2.2.2.1), (4, q.2.2.2.2.2.1)]) q.2.2.2.2.2.2.1 tx (us iB [(5, q.2.2.2.2.2.2.2.1)]) (us lB [(4, q.2.2.2.2.2.2.2.2)]) aB iC aC) (va_A (zzR ad cy (ad 3) (ad 10) iR iT wT tx iB lB aB iC aC) sz)) 0 0 (va_A (zzR ad cy (ad 3) (ad 10) iR iT wT tx iB lB aB iC aC) sz) := by
  refine Met.ofW (cc := cX4_takeRole) (maxL := 2) (ret := (some .int)) (by decide) rfl ?_
  intro p e s m args below meth c s₁ B hml hv
  obtain ⟨hav, hsz, hP, hK, hD0, hN⟩ := hv
  have hx := B.exec
  have hb := B.bytes
  have hr := B.returns
  have hts := atoms_spec (ws := wsX4_takeRole) B.pre
  have hown : s.vm.findClass RX4 = some m.cls := findClass_of_methodNamed B.named
  have hlocks := B.notSynchronized
  subst hsz
  have hD := hD0.self (sz := s.heap.size)
  generalize hAe : va_A (zzR ad cy (ad 3) (ad 10) iR iT wT tx iB lB aB iC aC) s.heap.size = A at hD ⊢
  have hA : ∀ q : Nat, s.heap.size ≤ q → A q := fun q h => by rw [← hAe]; exact Or.inr h
  have hS : va_S A s.heap s.heap [] := va_S.rf
  generalize hWQ : (zzR ad cy (ad 3) (ad 10) (us iR [(3, q.2.1), (4, q.2.2.1)]) (us iT [(2, q.2.2.2.1), (3, q.2.2.2.2.1), (4, q.2.2.2.2.2.1)]) q.2.2.2.2.2.2.1 tx (us iB [(5, q.2.2.2.2.2.2.2.1)]) (us lB [(4, q.2.2.2.2.2.2.2.2)]) aB iC aC) = WQ
  generalize hQQ : MQ below (cQi (dC, dI) cy q.1 WQ A) args s 0 0 A = QQ
  have hl := lv_entry ([.ref (ad 0)] : List Value) (n := 2) (Nat.le_of_ble_eq_true rfl)
  have hfr := lg_entry_eq m ([.ref (ad 0)] : List Value) 2
  rw [← hav] at hfr
  rw [hfr]
  clear hfr hav
  generalize (lg_sl ([.ref (ad 0)] : List Value) ++ List.replicate (2 - (lg_sl ([.ref (ad 0)] : List Value)).length) Slot.unset).toArray = ls at hl ⊢
  have hl : lv_has ls 2 [(0, .ref (ad 0))] := hl
  have kf20 := hts _ (List.mem_cons_of_mem _ m_fl_X4_20)
  have ki4 := (fun w h => List.mem_cons_of_mem _ (i_X4 w h) : ∀ w ∈ u_ws RX4 TX4 5, w ∈ wsX4_takeRole)
  have kf24 := hts _ (List.mem_cons_of_mem _ m_fl_X4_24)
  have kf48 := hts _ (List.mem_cons_of_mem _ m_fl_X4_48)
  have ki5 := (fun w h => List.mem_cons_of_mem _ (i_X5 w h) : ∀ w ∈ u_ws RX5 TX5 6, w ∈ wsX4_takeRole)
  have kf45 := hts _ (List.mem_cons_of_mem _ m_fl_X4_45)
  refine (?_ : ∀ (H : Heap) (locs : List Loc), va_P (dC, dI) vwCl (zzR ad cy (ad 3) (ad 10) iR iT wT tx iB lB aB iC aC) H → va_D A (zzR ad cy (ad 3) (ad 10) iR iT wT tx iB lB aB iC aC) → va_S A s.heap H locs → W p l e ({ frames := 3, cells := 0, slots := 0, locals := 63 } : Room) s m args below meth c H locs 0 0 QQ (F0 m 0 ls [])) s.heap [] hP hD hS
  clear hP hD hS
  have B80 : ∀ (v1 : Int32) (x_iB5 : Int32) (x_lB4 : Nat → Int64) (H : Heap) (locs : List Loc) (ls : Array Slot), f_R_takeRole_80 N (iR 3) (iR 4) (iT 1) (iT 2) (iT 3) (iT 4) wT tx (iB 3) (iB 5) (lB 2) (lB 4) v1 x_iB5 x_lB4 = some q → va_P (dC, dI) vwCl (zzR ad cy (ad 3) (ad 10) iR iT wT tx (us iB [(5, x_iB5)]) (us lB [(4, x_lB4)]) aB iC aC) H → va_D A (zzR ad cy (ad 3) (ad 10) iR iT wT tx (us iB [(5, x_iB5)]) (us lB [(4, x_lB4)]) aB iC aC) → va_S A s.heap H locs → lv_has ls 2 [(0, .ref (ad 0)), (1, .int v1)] → W p l e ({ frames := 3, cells := 0, slots := 0, locals := 63 } : Room) s m args below meth c H locs 0 0 QQ (F0 m 80 ls []) := by
    intro v1 x_iB5 x_lB4 H locs ls h hP hD hS hl
    unfold f_R_takeRole_80 at h
    refine lv_iload_n hx hb dX4_takeRole_80 rfl (lv_at hl 1 rfl) ?_
    refine lv_iconst (v := (-1)) hx hb dX4_takeRole_81 (by decide) ?_
    refine lv_icmp_ne (tgt := 91) hx hb dX4_takeRole_82 (by decide) (fun cz => ?_) (fun cz => ?_)
    · have h := g_f h cz
      refine lv_aload_n hx hb dX4_takeRole_91 rfl (lv_at hl 0 rfl) ?_
      refine va_get (D := (dC, dI)) (ci := 4) (v := .ref (ad 1)) (C := RX4) (T := TX4) (N := 5) hx hb hts ki4 hown hK hP 0 rfl rfl 0 (by decide) kf20 (fun _ h9 => h9) rfl dX4_takeRole_92 ?_
      obtain ⟨q95, e95, h⟩ := g_b h
      refine callVv (cc := cX4_takeRole) (ws' := zzR ad cy (ad 3) (ad 10) iR (us iT [(2, q95.1), (3, q95.2.1), (4, q95.2.2.1)]) q95.2.2.2 tx (us iB [(5, x_iB5)]) (us lB [(4, x_lB4)]) aB iC aC) (As := []) (rest := []) ⟨hx, hb, hml, hown, hts⟩ (c_T_step l dC dI cy (fun i => ad (i + 1)) H.size N iT wT tx q95 e95) (cwV 0 hts (goodV m_ml_X4_87 m_im_X5_step m_se_X5_step m_in_X5 m_cd_X5_step) rfl rfl rfl (by decide +kernel) ⟨Nat.le_of_ble_eq_true rfl, Nat.le_of_ble_eq_true rfl⟩) hN hK hP hD hS hA [1, 2] [none, some 0, some 1, none, none, none, none, none, none, none, none, none, none, none, none, none, none, none, none] rfl rfl rfl rfl rfl rfl 1 rfl rfl rfl hl.1 rfl (Nat.le_of_ble_eq_true rfl) dX4_takeRole_95 ⟨Nat.zero_le _, Nat.zero_le _⟩ (fun H locs hP hD hS => ?_)
      refine lv_iload_n hx hb dX4_takeRole_98 rfl (lv_at hl 1 rfl) ?_
      have h' := Option.some.inj h
      rw [← hQQ]
      exact W.iret (v := v1) hx hb hr (fun t ht hW => ⟨⟨v1, (), rfl, by rw [← h'], by rw [← hWQ, ← h', ht]; exact hP, va_K.moved hW.alike hK⟩, hS.F ht⟩) hS.2.2 dX4_takeRole_99
    · have h := g_t h cz
      refine lv_aload_n hx hb dX4_takeRole_85 rfl (lv_at hl 0 rfl) ?_
      refine lv_iconst (v := 3) hx hb dX4_takeRole_86 (by decide) ?_
      obtain ⟨q87, e87, h⟩ := g_b h
      refine callVis (cc := cX4_takeRole) (w1 := zzR ad cy (ad 3) (ad 10) (us iR [(3, q87.2.1), (4, q87.2.2)]) iT wT tx (us iB [(5, x_iB5)]) (us lB [(4, x_lB4)]) aB iC aC) (As := [.int ((3 : Int32))]) (rest := []) ⟨hx, hb, hml, hown, hts⟩ (c_R_failHere l dC dI cy ad H.size ((3 : Int32)) iR iT wT tx ((us iB [(5, x_iB5)])) ((us lB [(4, x_lB4)])) aB iC aC q87 e87) (cwV 1 hts (goodV m_ml_X4_77 m_im_X4_failHere m_se_X4_failHere m_in_X4 m_cd_X4_failHere) rfl rfl rfl (by decide +kernel) ⟨Nat.le_of_ble_eq_true rfl, Nat.le_of_ble_eq_true rfl⟩) hN hK hP hD hS hA rfl 0 rfl rfl rfl hl.1 rfl (Nat.le_of_ble_eq_true rfl) dX4_takeRole_87 ⟨Nat.zero_le _, Nat.zero_le _⟩ (fun H locs hP hD hS => ?_)
      have h' := Option.some.inj h
      rw [← hQQ]
      exact W.iret (v := q87.1) hx hb hr (fun t ht hW => ⟨⟨q87.1, (), rfl, by rw [← h'], by rw [← hWQ, ← h', ht]; exact hP, va_K.moved hW.alike hK⟩, hS.F ht⟩) hS.2.2 dX4_takeRole_90
  have B60 : ∀ (v1 : Int32) (H : Heap) (locs : List Loc) (ls : Array Slot), f_R_takeRole_60 N (iR 3) (iR 4) (iT 1) (iT 2) (iT 3) (iT 4) wT tx (iB 3) (iB 5) (lB 2) (lB 4) v1 = some q → va_P (dC, dI) vwCl (zzR ad cy (ad 3) (ad 10) iR iT wT tx iB lB aB iC aC) H → va_D A (zzR ad cy (ad 3) (ad 10) iR iT wT tx iB lB aB iC aC) → va_S A s.heap H locs → lv_has ls 2 [(0, .ref (ad 0)), (1, .int v1)] → W p l e ({ frames := 3, cells := 0, slots := 0, locals := 63 } : Room) s m args below meth c H locs 0 0 QQ (F0 m 60 ls []) := by
    intro v1 H locs ls h hP hD hS hl
    unfold f_R_takeRole_60 at h
    refine lv_iload_n hx hb dX4_takeRole_60 rfl (lv_at hl 1 rfl) ?_
    refine lv_iconst (v := (-1)) hx hb dX4_takeRole_61 (by decide) ?_
    refine lv_icmp_ne (tgt := 80) hx hb dX4_takeRole_62 (by decide) (fun cz => ?_) (fun cz => ?_)
    · have h := g_f h cz
      exact B80 v1 (iB 5) (lB 4) H locs ls h hP hD hS (lv_sub hl [0, 1] rfl)
    · have h := g_t h cz
      refine lv_aload_n hx hb dX4_takeRole_65 rfl (lv_at hl 0 rfl) ?_
      refine va_get (D := (dC, dI)) (ci := 4) (v := .ref (ad 3)) (C := RX4) (T := TX4) (N := 5) hx hb hts ki4 hown hK hP 0 rfl rfl 1 (by decide) kf24 (fun _ h9 => h9) rfl dX4_takeRole_66 ?_
      refine lv_aload_n hx hb dX4_takeRole_69 rfl (lv_at hl 0 rfl) ?_
      refine va_get (D := (dC, dI)) (ci := 4) (v := .ref (ad 1)) (C := RX4) (T := TX4) (N := 5) hx hb hts ki4 hown hK hP 0 rfl rfl 0 (by decide) kf20 (fun _ h9 => h9) rfl dX4_takeRole_70 ?_
      refine va_get (D := (dC, dI)) (ci := 5) (v := .long wT) (C := RX5) (T := TX5) (N := 6) hx hb hts ki5 hown hK hP 1 rfl rfl 5 (by decide) kf48 (fun _ h9 => h9) rfl dX4_takeRole_73 ?_
      obtain ⟨q76, e76, h⟩ := g_b h
      refine callVi (cc := cX4_takeRole) (ws' := zzR ad cy (ad 3) (ad 10) iR iT wT tx (us iB [(5, q76.2.1)]) (us lB [(4, q76.2.2)]) aB iC aC) (As := [.long wT]) (rest := []) ⟨hx, hb, hml, hown, hts⟩ (c_B_addRole l dC dI cy (fun i => ad (i + 3)) H.size wT iB lB aB iC aC q76 e76) (cwV 1 hts (goodV m_ml_X4_145 m_im_X0_addRole m_se_X0_addRole m_in_X0 m_cd_X0_addRole) rfl rfl rfl (by decide +kernel) ⟨Nat.le_of_ble_eq_true rfl, Nat.le_of_ble_eq_true rfl⟩) hN hK hP hD hS hA [3, 4, 5, 6, 7, 8, 9, 10, 11, 12, 13, 14, 15, 16, 17, 18] [none, none, none, some 0, some 1, some 2, some 3, some 4, some 5, some 6, some 7, some 8, some 9, some 10, some 11, some 12, some 13, some 14, some 15] rfl rfl rfl rfl rfl rfl 3 rfl rfl rfl hl.1 rfl (Nat.le_of_ble_eq_true rfl) dX4_takeRole_76 ⟨Nat.zero_le _, Nat.zero_le _⟩ (fun H locs hP hD hS => ?_)
      refine lv_istore_n (lv' := [(1, .int q76.1), (0, .ref (ad 0))]) hx hb dX4_takeRole_79 rfl hl (by decide) rfl (fun ls hl => ?_)
      exact B80 q76.1 q76.2.1 q76.2.2 H locs ls h hP hD hS (lv_sub hl [1, 0] rfl)
  intro H locs hP hD hS
  unfold f_R_takeRole at h
  refine lv_aload_n hx hb dX4_takeRole_0 rfl (lv_at hl 0 rfl) ?_
  refine va_get (D := (dC, dI)) (ci := 4) (v := .ref (ad 1)) (C := RX4) (T := TX4) (N := 5) hx hb hts ki4 hown hK hP 0 rfl rfl 0 (by decide) kf20 (fun _ h9 => h9) rfl dX4_takeRole_1 ?_
  refine va_get (D := (dC, dI)) (ci := 5) (v := .int (iT 4)) (C := RX5) (T := TX5) (N := 6) hx hb hts ki5 hown hK hP 1 rfl rfl 4 (by decide) kf45 (fun _ h9 => h9) rfl dX4_takeRole_4 ?_
  refine lv_iconst (v := 4) hx hb dX4_takeRole_7 (by decide) ?_
  refine lv_icmp_eq (tgt := 16) hx hb dX4_takeRole_8 (by decide) (fun cz => ?_) (fun cz => ?_)
  · have h := g_t h cz
    refine lv_aload_n hx hb dX4_takeRole_16 rfl (lv_at hl 0 rfl) ?_
    refine va_get (D := (dC, dI)) (ci := 4) (v := .ref (ad 3)) (C := RX4) (T := TX4) (N := 5) hx hb hts ki4 hown hK hP 0 rfl rfl 1 (by decide) kf24 (fun _ h9 => h9) rfl dX4_takeRole_17 ?_
    refine lv_aload_n hx hb dX4_takeRole_20 rfl (lv_at hl 0 rfl) ?_
    refine va_get (D := (dC, dI)) (ci := 4) (v := .ref (ad 1)) (C := RX4) (T := TX4) (N := 5) hx hb hts ki4 hown hK hP 0 rfl rfl 0 (by decide) kf20 (fun _ h9 => h9) rfl dX4_takeRole_21 ?_
    refine va_get (D := (dC, dI)) (ci := 5) (v := .long wT) (C := RX5) (T := TX5) (N := 6) hx hb hts ki5 hown hK hP 1 rfl rfl 5 (by decide) kf48 (fun _ h9 => h9) rfl dX4_takeRole_24 ?_
    obtain ⟨q27, e27, h⟩ := g_b h
    refine callVi (cc := cX4_takeRole) (ws' := zzR ad cy (ad 3) (ad 10) iR iT wT tx iB lB aB iC aC) (As := [.long wT]) (rest := []) ⟨hx, hb, hml, hown, hts⟩ (c_B_findRole l dC dI cy (fun i => ad (i + 3)) H.size N wT iB lB aB iC aC q27 e27) (cwV 1 hts (goodV m_ml_X4_138 m_im_X0_findRole m_se_X0_findRole m_in_X0 m_cd_X0_findRole) rfl rfl rfl (by decide +kernel) ⟨Nat.le_of_ble_eq_true rfl, Nat.le_of_ble_eq_true rfl⟩) hN hK hP hD hS hA [3, 4, 5, 6, 7, 8, 9, 10, 11, 12, 13, 14, 15, 16, 17, 18] [none, none, none, some 0, some 1, some 2, some 3, some 4, some 5, some 6, some 7, some 8, some 9, some 10, some 11, some 12, some 13, some 14, some 15] rfl rfl rfl rfl rfl rfl 3 rfl rfl rfl hl.1 rfl (Nat.le_of_ble_eq_true rfl) dX4_takeRole_27 ⟨Nat.zero_le _, Nat.zero_le _⟩ (fun H locs hP hD hS => ?_)
    refine lv_istore_n (lv' := [(1, .int q27), (0, .ref (ad 0))]) hx hb dX4_takeRole_30 rfl hl (by decide) rfl (fun ls hl => ?_)
    refine lv_iload_n hx hb dX4_takeRole_31 rfl (lv_at hl 0 rfl) ?_
    refine lv_iconst (v := (-1)) hx hb dX4_takeRole_32 (by decide) ?_
    refine lv_icmp_ne (tgt := 60) hx hb dX4_takeRole_33 (by decide) (fun cz => ?_) (fun cz => ?_)
    · have h := g_f h cz
      exact B60 q27 H locs ls h hP hD hS (lv_sub hl [1, 0] rfl)
    · have h := g_t h cz
      refine lv_aload_n hx hb dX4_takeRole_36 rfl (lv_at hl 1 rfl) ?_
      refine va_get (D := (dC, dI)) (ci := 4) (v := .ref (ad 3)) (C := RX4) (T := TX4) (N := 5) hx hb hts ki4 hown hK hP 0 rfl rfl 1 (by decide) kf24 (fun _ h9 => h9) rfl dX4_takeRole_37 ?_
      refine lv_aload_n hx hb dX4_takeRole_40 rfl (lv_at hl 1 rfl) ?_
      refine va_get (D := (dC, dI)) (ci := 4) (v := .ref (ad 1)) (C := RX4) (T := TX4) (N := 5) hx hb hts ki4 hown hK hP 0 rfl rfl 0 (by decide) kf20 (fun _ h9 => h9) rfl dX4_takeRole_41 ?_
      refine va_get (D := (dC, dI)) (ci := 5) (v := .long wT) (C := RX5) (T := TX5) (N := 6) hx hb hts ki5 hown hK hP 1 rfl rfl 5 (by decide) kf48 (fun _ h9 => h9) rfl dX4_takeRole_44 ?_
      obtain ⟨q47, e47, h⟩ := g_b h
      refine callVi (cc := cX4_takeRole) (ws' := zzR ad cy (ad 3) (ad 10) iR iT wT tx iB lB aB iC aC) (As := [.long wT]) (rest := []) ⟨hx, hb, hml, hown, hts⟩ (c_B_findName l dC dI cy (fun i => ad (i + 3)) H.size N wT iB lB aB iC aC q47 e47) (cwV 1 hts (goodV m_ml_X4_142 m_im_X0_findName m_se_X0_findName m_in_X0 m_cd_X0_findName) rfl rfl rfl (by decide +kernel) ⟨Nat.le_of_ble_eq_true rfl, Nat.le_of_ble_eq_true rfl⟩) hN hK hP hD hS hA [3, 4, 5, 6, 7, 8, 9, 10, 11, 12, 13, 14, 15, 16, 17, 18] [none, none, none, some 0, some 1, some 2, some 3, some 4, some 5, some 6, some 7, some 8, some 9, some 10, some 11, some 12, some 13, some 14, some 15] rfl rfl rfl rfl rfl rfl 3 rfl rfl rfl hl.1 rfl (Nat.le_of_ble_eq_true rfl) dX4_takeRole_47 ⟨Nat.zero_le _, Nat.zero_le _⟩ (fun H locs hP hD hS => ?_)
      refine lv_iconst (v := (-1)) hx hb dX4_takeRole_50 (by decide) ?_
      refine lv_icmp_eq (tgt := 60) hx hb dX4_takeRole_51 (by decide) (fun cz => ?_) (fun cz => ?_)
      · have h := g_t h cz
        exact B60 q27 H locs ls h hP hD hS (lv_sub hl [1, 0] rfl)
      · have h := g_f h cz
        refine lv_aload_n hx hb dX4_takeRole_54 rfl (lv_at hl 1 rfl) ?_
        refine lv_iconst (v := 4) hx hb dX4_takeRole_55 (by decide) ?_
        obtain ⟨q56, e56, h⟩ := g_b h
        refine callVis (cc := cX4_takeRole) (w1 := zzR ad cy (ad 3) (ad 10) (us iR [(3, q56.2.1), (4, q56.2.2)]) iT wT tx iB lB aB iC aC) (As := [.int ((4 : Int32))]) (rest := []) ⟨hx, hb, hml, hown, hts⟩ (c_R_failHere l dC dI cy ad H.size ((4 : Int32)) iR iT wT tx iB lB aB iC aC q56 e56) (cwV 1 hts (goodV m_ml_X4_77 m_im_X4_failHere m_se_X4_failHere m_in_X4 m_cd_X4_failHere) rfl rfl rfl (by decide +kernel) ⟨Nat.le_of_ble_eq_true rfl, Nat.le_of_ble_eq_true rfl⟩) hN hK hP hD hS hA rfl 0 rfl rfl rfl hl.1 rfl (Nat.le_of_ble_eq_true rfl) dX4_takeRole_56 ⟨Nat.zero_le _, Nat.zero_le _⟩ (fun H locs hP hD hS => ?_)
        have h' := Option.some.inj h
        rw [← hQQ]
        exact W.iret (v := q56.1) hx hb hr (fun t ht hW => ⟨⟨q56.1, (), rfl, by rw [← h'], by rw [← hWQ, ← h', ht]; exact hP, va_K.moved hW.alike hK⟩, hS.F ht⟩) hS.2.2 dX4_takeRole_59
  · have h := g_f h cz
    refine lv_aload_n hx hb dX4_takeRole_11 rfl (lv_at hl 0 rfl) ?_
    obtain ⟨q12, e12, h⟩ := g_b h
    refine callVis (cc := cX4_takeRole) (w1 := zzR ad cy (ad 3) (ad 10) (us iR [(3, q12.2.1), (4, q12.2.2)]) iT wT tx iB lB aB iC aC) (As := []) (rest := []) ⟨hx, hb, hml, hown, hts⟩ (c_R_misplaced l dC dI cy ad H.size iR iT wT tx iB lB aB iC aC q12 e12) (cwV 0 hts (goodV m_ml_X4_83 m_im_X4_misplaced m_se_X4_misplaced m_in_X4 m_cd_X4_misplaced) rfl rfl rfl (by decide +kernel) ⟨Nat.le_of_ble_eq_true rfl, Nat.le_of_ble_eq_true rfl⟩) hN hK hP hD hS hA rfl 0 rfl rfl rfl hl.1 rfl (Nat.le_of_ble_eq_true rfl) dX4_takeRole_12 ⟨Nat.zero_le _, Nat.zero_le _⟩ (fun H locs hP hD hS => ?_)
    have h' := Option.some.inj h
    rw [← hQQ]
    exact W.iret (v := q12.1) hx hb hr (fun t ht hW => ⟨⟨q12.1, (), rfl, by rw [← h'], by rw [← hWQ, ← h', ht]; exact hP, va_K.moved hW.alike hK⟩, hS.F ht⟩) hS.2.2 dX4_takeRole_15
set_option maxHeartbeats 8000000 in
set_option maxRecDepth 100000 in
theorem c_C_find (l : Launch) (dC : Nat → ClassId) (dI : Nat → Nat → Nat) (cy : Nat → ClassId) (ad : Nat → Nat) (sz : Nat) (N : Nat) (a1 : Int32) (a2 : Int32) (a3 : Int32) (iC : Nat → Int32) (aC : Nat → Nat → Int32) (q : Int32) (h : f_C_find N a1 a2 a3 (iC 4) (aC 0) (aC 1) (aC 2) = some q) : Met l yX1_find wsX1_find ({ frames := 0, cells := 0, slots := 0, locals := 0 } : Room) (cP (dC, dI) cy [.ref (ad 0), .int a1, .int a2, .int a3] (zzC ad cy iC aC) sz) (cQi (dC, dI) cy q (zzC ad cy iC aC) (va_A (zzC ad cy iC aC) sz)) 0 0 (va_A (zzC ad cy iC aC) sz) := by
  refine Met.ofW (cc := cX1_find) (maxL := 5) (ret := (some .int)) (by decide) rfl ?_
  intro p e s m args below meth c s₁ B hml hv
  obtain ⟨hav, hsz, hP, hK, hD0, hN⟩ := hv
  have hx := B.exec
  have hb := B.bytes
  have hr := B.returns
  have hts := atoms_spec (ws := wsX1_find) B.pre
  have hown : s.vm.findClass RX1 = some m.cls := findClass_of_methodNamed B.named
  have hlocks := B.notSynchronized
  subst hsz
  have hD := hD0.self (sz := s.heap.size)
  generalize hAe : va_A (zzC ad cy iC aC) s.heap.size = A at hD ⊢
  have hA : ∀ q : Nat, s.heap.size ≤ q → A q := fun q h => by rw [← hAe]; exact Or.inr h
  have hS : va_S A s.heap s.heap [] := va_S.rf
  generalize hWQ : (zzC ad cy iC aC) = WQ
  generalize hQQ : MQ below (cQi (dC, dI) cy q WQ A) args s 0 0 A = QQ
  have hl := lv_entry ([.ref (ad 0), .int a1, .int a2, .int a3] : List Value) (n := 5) (Nat.le_of_ble_eq_true rfl)
  have hfr := lg_entry_eq m ([.ref (ad 0), .int a1, .int a2, .int a3] : List Value) 5
  rw [← hav] at hfr
  rw [hfr]
  clear hfr hav
  generalize (lg_sl ([.ref (ad 0), .int a1, .int a2, .int a3] : List Value) ++ List.replicate (5 - (lg_sl ([.ref (ad 0), .int a1, .int a2, .int a3] : List Value)).length) Slot.unset).toArray = ls at hl ⊢
  have hl : lv_has ls 5 [(0, .ref (ad 0)), (1, .int a1), (2, .int a2), (3, .int a3)] := hl
  have kf36 := hts _ (List.mem_cons_of_mem _ m_fl_X1_36)
  have ki1 := (fun w h => List.mem_cons_of_mem _ (i_X1 w h) : ∀ w ∈ u_ws RX1 TX1 10, w ∈ wsX1_find)
  have kf9 := hts _ (List.mem_cons_of_mem _ m_fl_X1_9)
  have kf15 := hts _ (List.mem_cons_of_mem _ m_fl_X1_15)
  have kf18 := hts _ (List.mem_cons_of_mem _ m_fl_X1_18)
  refine (?_ : ∀ (H : Heap) (locs : List Loc), va_P (dC, dI) vwCl (zzC ad cy iC aC) H → va_D A (zzC ad cy iC aC) → va_S A s.heap H locs → W p l e ({ frames := 0, cells := 0, slots := 0, locals := 0 } : Room) s m args below meth c H locs 0 0 QQ (F0 m 0 ls [])) s.heap [] hP hD hS
  clear hP hD hS
  have B3 : ∀ (n : Nat) (v1 : Int32) (v2 : Int32) (v3 : Int32) (v4 : Int32) (H : Heap) (locs : List Loc) (ls : Array Slot), f_C_find_3 N (iC 4) (aC 0) (aC 1) (aC 2) v1 v2 v3 n v4 = some q → va_P (dC, dI) vwCl (zzC ad cy iC aC) H → va_D A (zzC ad cy iC aC) → va_S A s.heap H locs → lv_has ls 5 [(0, .ref (ad 0)), (1, .int v1), (2, .int v2), (3, .int v3), (4, .int v4)] → W p l e ({ frames := 0, cells := 0, slots := 0, locals := 0 } : Room) s m args below meth c H locs 0 0 QQ (F0 m 3 ls []) := by
    intro n
    induction n with
    | zero =>
      intro v1 v2 v3 v4 H locs ls h hP hD hS hl
      rw [f_C_find_3] at h
      cases h
    | succ n ih =>
      intro v1 v2 v3 v4 H locs ls h hP hD hS hl
      rw [f_C_find_3] at h
      refine lv_iload hx hb dX1_find_3 (lv_at hl 4 rfl) ?_
      refine lv_aload_n hx hb dX1_find_5 rfl (lv_at hl 0 rfl) ?_
      refine va_get (D := (dC, dI)) (ci := 1) (v := .int (iC 4)) (C := RX1) (T := TX1) (N := 10) hx hb hts ki1 hown hK hP 0 rfl rfl 4 (by decide) kf36 (fun _ h9 => h9) rfl dX1_find_6 ?_
      refine lv_icmp_ge (tgt := 54) hx hb dX1_find_9 (by decide) (fun cz => ?_) (fun cz => ?_)
      · have h := g_t h cz
        refine lv_iconst (v := (-1)) hx hb dX1_find_54 (by decide) ?_
        have h' := Option.some.inj h
        rw [← hQQ]
        exact W.iret (v := (-1 : Int32)) hx hb hr (fun t ht hW => ⟨⟨(-1 : Int32), (), rfl, by rw [← h'], by rw [← hWQ, ht]; exact hP, va_K.moved hW.alike hK⟩, hS.F ht⟩) hS.2.2 dX1_find_55
      · have h := g_f h cz
        refine lv_aload_n hx hb dX1_find_12 rfl (lv_at hl 0 rfl) ?_
        refine va_get (D := (dC, dI)) (ci := 1) (v := .ref (ad 1)) (C := RX1) (T := TX1) (N := 10) hx hb hts ki1 hown hK hP 0 rfl rfl 0 (by decide) kf9 (fun _ h9 => h9) rfl dX1_find_13 ?_
        refine lv_iload hx hb dX1_find_16 (lv_at hl 4 rfl) ?_
        obtain ⟨g_8, h⟩ := g_n h
        refine va_iald (f := (aC 0)) hx hb hK hP 1 0 rfl rfl g_8 dX1_find_18 ?_
        refine lv_iload_n hx hb dX1_find_19 rfl (lv_at hl 1 rfl) ?_
        refine lv_icmp_ne (tgt := 48) hx hb dX1_find_20 (by decide) (fun cz => ?_) (fun cz => ?_)
        · have h := g_f h cz
          refine lv_iinc (v := (v4 + (1 : Int32))) (lv' := [(4, .int ((v4 + (1 : Int32)))), (0, .ref (ad 0)), (1, .int v1), (2, .int v2), (3, .int v3)]) hx hb dX1_find_48 hl (k := 4) rfl rfl (by decide) rfl (fun ls hl => ?_)
          refine lv_goto (tgt := 3) hx hb dX1_find_51 (by decide) ?_
          exact ih v1 v2 v3 ((v4 + (1 : Int32))) H locs ls h hP hD hS (lv_sub hl [1, 2, 3, 4, 0] rfl)
        · have h := g_t h cz
          refine lv_aload_n hx hb dX1_find_23 rfl (lv_at hl 0 rfl) ?_
          refine va_get (D := (dC, dI)) (ci := 1) (v := .ref (ad 2)) (C := RX1) (T := TX1) (N := 10) hx hb hts ki1 hown hK hP 0 rfl rfl 1 (by decide) kf15 (fun _ h9 => h9) rfl dX1_find_24 ?_
          refine lv_iload hx hb dX1_find_27 (lv_at hl 4 rfl) ?_
          refine va_iald (f := (aC 1)) hx hb hK hP 2 0 rfl rfl g_8 dX1_find_29 ?_
          refine lv_iload_n hx hb dX1_find_30 rfl (lv_at hl 2 rfl) ?_
          refine lv_icmp_ne (tgt := 48) hx hb dX1_find_31 (by decide) (fun cz => ?_) (fun cz => ?_)
          · have h := g_f h cz
            refine lv_iinc (v := (v4 + (1 : Int32))) (lv' := [(4, .int ((v4 + (1 : Int32)))), (0, .ref (ad 0)), (1, .int v1), (2, .int v2), (3, .int v3)]) hx hb dX1_find_48 hl (k := 4) rfl rfl (by decide) rfl (fun ls hl => ?_)
            refine lv_goto (tgt := 3) hx hb dX1_find_51 (by decide) ?_
            exact ih v1 v2 v3 ((v4 + (1 : Int32))) H locs ls h hP hD hS (lv_sub hl [1, 2, 3, 4, 0] rfl)
          · have h := g_t h cz
            refine lv_aload_n hx hb dX1_find_34 rfl (lv_at hl 0 rfl) ?_
            refine va_get (D := (dC, dI)) (ci := 1) (v := .ref (ad 3)) (C := RX1) (T := TX1) (N := 10) hx hb hts ki1 hown hK hP 0 rfl rfl 2 (by decide) kf18 (fun _ h9 => h9) rfl dX1_find_35 ?_
            refine lv_iload hx hb dX1_find_38 (lv_at hl 4 rfl) ?_
            refine va_iald (f := (aC 2)) hx hb hK hP 3 0 rfl rfl g_8 dX1_find_40 ?_
            refine lv_iload_n hx hb dX1_find_41 rfl (lv_at hl 3 rfl) ?_
            refine lv_icmp_ne (tgt := 48) hx hb dX1_find_42 (by decide) (fun cz => ?_) (fun cz => ?_)
            · have h := g_f h cz
              refine lv_iinc (v := (v4 + (1 : Int32))) (lv' := [(4, .int ((v4 + (1 : Int32)))), (0, .ref (ad 0)), (1, .int v1), (2, .int v2), (3, .int v3)]) hx hb dX1_find_48 hl (k := 4) rfl rfl (by decide) rfl (fun ls hl => ?_)
              refine lv_goto (tgt := 3) hx hb dX1_find_51 (by decide) ?_
              exact ih v1 v2 v3 ((v4 + (1 : Int32))) H locs ls h hP hD hS (lv_sub hl [1, 2, 3, 4, 0] rfl)
            · have h := g_t h cz
              refine lv_iload hx hb dX1_find_45 (lv_at hl 4 rfl) ?_
              have h' := Option.some.inj h
              rw [← hQQ]
              exact W.iret (v := v4) hx hb hr (fun t ht hW => ⟨⟨v4, (), rfl, by rw [← h'], by rw [← hWQ, ht]; exact hP, va_K.moved hW.alike hK⟩, hS.F ht⟩) hS.2.2 dX1_find_47
  intro H locs hP hD hS
  unfold f_C_find at h
  refine lv_iconst (v := 0) hx hb dX1_find_0 (by decide) ?_
  refine lv_istore (lv' := [(4, .int ((0 : Int32))), (0, .ref (ad 0)), (1, .int a1), (2, .int a2), (3, .int a3)]) hx hb dX1_find_1 hl (by decide) rfl (fun ls hl => ?_)
  exact B3 N a1 a2 a3 ((0 : Int32)) H locs ls h hP hD hS (lv_sub hl [1, 2, 3, 4, 0] rfl)
set_option maxHeartbeats 8000000 in
set_option maxRecDepth 100000 in
theorem c_C_sortOf (l : Launch) (dC : Nat → ClassId) (dI : Nat → Nat → Nat) (cy : Nat → ClassId) (ad : Nat → Nat) (sz : Nat) (a1 : Int32) (iC : Nat → Int32) (aC : Nat → Nat → Int32) (q : Int32) (h : f_C_sortOf a1 (iC 4) (aC 0) = some q) : Met l yX1_sortOf wsX1_sortOf ({ frames := 0, cells := 0, slots := 0, locals := 0 } : Room) (cP (dC, dI) cy [.ref (ad 0), .int a1] (zzC ad cy iC aC) sz) (cQi (dC, dI) cy q (zzC ad cy iC aC) (va_A (zzC ad cy iC aC) sz)) 0 0 (va_A (zzC ad cy iC aC) sz) := by
  refine Met.ofW (cc := cX1_sortOf) (maxL := 2) (ret := (some .int)) (by decide) rfl ?_
  intro p e s m args below meth c s₁ B hml hv
  obtain ⟨hav, hsz, hP, hK, hD0, hN⟩ := hv
  have hx := B.exec
  have hb := B.bytes
  have hr := B.returns
  have hts := atoms_spec (ws := wsX1_sortOf) B.pre
  have hown : s.vm.findClass RX1 = some m.cls := findClass_of_methodNamed B.named
  have hlocks := B.notSynchronized
  subst hsz
  have hD := hD0.self (sz := s.heap.size)
  generalize hAe : va_A (zzC ad cy iC aC) s.heap.size = A at hD ⊢
  have hA : ∀ q : Nat, s.heap.size ≤ q → A q := fun q h => by rw [← hAe]; exact Or.inr h
  have hS : va_S A s.heap s.heap [] := va_S.rf
  generalize hWQ : (zzC ad cy iC aC) = WQ
  generalize hQQ : MQ below (cQi (dC, dI) cy q WQ A) args s 0 0 A = QQ
  have hl := lv_entry ([.ref (ad 0), .int a1] : List Value) (n := 2) (Nat.le_of_ble_eq_true rfl)
  have hfr := lg_entry_eq m ([.ref (ad 0), .int a1] : List Value) 2
  rw [← hav] at hfr
  rw [hfr]
  clear hfr hav
  generalize (lg_sl ([.ref (ad 0), .int a1] : List Value) ++ List.replicate (2 - (lg_sl ([.ref (ad 0), .int a1] : List Value)).length) Slot.unset).toArray = ls at hl ⊢
  have hl : lv_has ls 2 [(0, .ref (ad 0)), (1, .int a1)] := hl
  have kf36 := hts _ (List.mem_cons_of_mem _ m_fl_X1_36)
  have ki1 := (fun w h => List.mem_cons_of_mem _ (i_X1 w h) : ∀ w ∈ u_ws RX1 TX1 10, w ∈ wsX1_sortOf)
  have kf9 := hts _ (List.mem_cons_of_mem _ m_fl_X1_9)
  refine (?_ : ∀ (H : Heap) (locs : List Loc), va_P (dC, dI) vwCl (zzC ad cy iC aC) H → va_D A (zzC ad cy iC aC) → va_S A s.heap H locs → W p l e ({ frames := 0, cells := 0, slots := 0, locals := 0 } : Room) s m args below meth c H locs 0 0 QQ (F0 m 0 ls [])) s.heap [] hP hD hS
  clear hP hD hS
  intro H locs hP hD hS
  unfold f_C_sortOf at h
  refine lv_iload_n hx hb dX1_sortOf_0 rfl (lv_at hl 1 rfl) ?_
  refine lv_if_lt (tgt := 21) hx hb dX1_sortOf_1 (by decide) (fun cz => ?_) (fun cz => ?_)
  · have h := g_t h cz
    refine lv_iconst (v := (-1)) hx hb dX1_sortOf_21 (by decide) ?_
    have h' := Option.some.inj h
    rw [← hQQ]
    exact W.iret (v := (-1 : Int32)) hx hb hr (fun t ht hW => ⟨⟨(-1 : Int32), (), rfl, by rw [← h'], by rw [← hWQ, ht]; exact hP, va_K.moved hW.alike hK⟩, hS.F ht⟩) hS.2.2 dX1_sortOf_22
  · have h := g_f h cz
    refine lv_iload_n hx hb dX1_sortOf_4 rfl (lv_at hl 1 rfl) ?_
    refine lv_aload_n hx hb dX1_sortOf_5 rfl (lv_at hl 0 rfl) ?_
    refine va_get (D := (dC, dI)) (ci := 1) (v := .int (iC 4)) (C := RX1) (T := TX1) (N := 10) hx hb hts ki1 hown hK hP 0 rfl rfl 4 (by decide) kf36 (fun _ h9 => h9) rfl dX1_sortOf_6 ?_
    refine lv_icmp_ge (tgt := 21) hx hb dX1_sortOf_9 (by decide) (fun cz => ?_) (fun cz => ?_)
    · have h := g_t h cz
      refine lv_iconst (v := (-1)) hx hb dX1_sortOf_21 (by decide) ?_
      have h' := Option.some.inj h
      rw [← hQQ]
      exact W.iret (v := (-1 : Int32)) hx hb hr (fun t ht hW => ⟨⟨(-1 : Int32), (), rfl, by rw [← h'], by rw [← hWQ, ht]; exact hP, va_K.moved hW.alike hK⟩, hS.F ht⟩) hS.2.2 dX1_sortOf_22
    · have h := g_f h cz
      refine lv_aload_n hx hb dX1_sortOf_12 rfl (lv_at hl 0 rfl) ?_
      refine va_get (D := (dC, dI)) (ci := 1) (v := .ref (ad 1)) (C := RX1) (T := TX1) (N := 10) hx hb hts ki1 hown hK hP 0 rfl rfl 0 (by decide) kf9 (fun _ h9 => h9) rfl dX1_sortOf_13 ?_
      refine lv_iload_n hx hb dX1_sortOf_16 rfl (lv_at hl 1 rfl) ?_
      obtain ⟨g_9, h⟩ := g_n h
      refine va_iald (f := (aC 0)) hx hb hK hP 1 0 rfl rfl g_9 dX1_sortOf_17 ?_
      refine lv_goto (tgt := 22) hx hb dX1_sortOf_18 (by decide) ?_
      have h' := Option.some.inj h
      rw [← hQQ]
      exact W.iret (v := ((aC 0) a1.toNatClampNeg)) hx hb hr (fun t ht hW => ⟨⟨((aC 0) a1.toNatClampNeg), (), rfl, by rw [← h'], by rw [← hWQ, ht]; exact hP, va_K.moved hW.alike hK⟩, hS.F ht⟩) hS.2.2 dX1_sortOf_22
set_option maxHeartbeats 8000000 in
set_option maxRecDepth 100000 in
theorem c_C_atomFor (l : Launch) (dC : Nat → ClassId) (dI : Nat → Nat → Nat) (cy : Nat → ClassId) (ad : Nat → Nat) (sz : Nat) (N : Nat) (a1 : Int32) (a2 : Int32) (a3 : Int32) (a4 : Int32) (iC : Nat → Int32) (aC : Nat → Nat → Int32) (q : Int32 × Int32 × (Nat → Int32) × (Nat → Int32) × (Nat → Int32) × (Nat → Int32)) (h : f_C_atomFor N a1 a2 a3 a4 (iC 9) (aC 5) (aC 6) (aC 7) (aC 8) = some q) : Met l yX1_atomFor wsX1_atomFor ({ frames := 0, cells := 0, slots := 0, locals := 0 } : Room) (cP (dC, dI) cy [.ref (ad 0), .int a1, .int a2, .int a3, .int a4] (zzC ad cy iC aC) sz) (cQi (dC, dI) cy q.1 (zzC ad cy (us iC [(9, q.2.1)]) (us aC [(5, q.2.2.1), (6, q.2.2.2.1), (7, q.2.2.2.2.1), (8, q.2.2.2.2.2)])) (va_A (zzC ad cy iC aC) sz)) 0 0 (va_A (zzC ad cy iC aC) sz) := by
  refine Met.ofW (cc := cX1_atomFor) (maxL := 6) (ret := (some .int)) (by decide) rfl ?_
  intro p e s m args below meth c s₁ B hml hv
  obtain ⟨hav, hsz, hP, hK, hD0, hN⟩ := hv
  have hx := B.exec
  have hb := B.bytes
  have hr := B.returns
  have hts := atoms_spec (ws := wsX1_atomFor) B.pre
  have hown : s.vm.findClass RX1 = some m.cls := findClass_of_methodNamed B.named
  have hlocks := B.notSynchronized
  subst hsz
  have hD := hD0.self (sz := s.heap.size)
  generalize hAe : va_A (zzC ad cy iC aC) s.heap.size = A at hD ⊢
  have hA : ∀ q : Nat, s.heap.size ≤ q → A q := fun q h => by rw [← hAe]; exact Or.inr h
  have hS : va_S A s.heap s.heap [] := va_S.rf
  generalize hWQ : (zzC ad cy (us iC [(9, q.2.1)]) (us aC [(5, q.2.2.1), (6, q.2.2.2.1), (7, q.2.2.2.2.1), (8, q.2.2.2.2.2)])) = WQ
  generalize hQQ : MQ below (cQi (dC, dI) cy q.1 WQ A) args s 0 0 A = QQ
  have hl := lv_entry ([.ref (ad 0), .int a1, .int a2, .int a3, .int a4] : List Value) (n := 6) (Nat.le_of_ble_eq_true rfl)
  have hfr := lg_entry_eq m ([.ref (ad 0), .int a1, .int a2, .int a3, .int a4] : List Value) 6
  rw [← hav] at hfr
  rw [hfr]
  clear hfr hav
  generalize (lg_sl ([.ref (ad 0), .int a1, .int a2, .int a3, .int a4] : List Value) ++ List.replicate (6 - (lg_sl ([.ref (ad 0), .int a1, .int a2, .int a3, .int a4] : List Value)).length) Slot.unset).toArray = ls at hl ⊢
  have hl : lv_has ls 6 [(0, .ref (ad 0)), (1, .int a1), (2, .int a2), (3, .int a3), (4, .int a4)] := hl
  have kf40 := hts _ (List.mem_cons_of_mem _ m_fl_X1_40)
  have ki1 := (fun w h => List.mem_cons_of_mem _ (i_X1 w h) : ∀ w ∈ u_ws RX1 TX1 10, w ∈ wsX1_atomFor)
  have kf24 := hts _ (List.mem_cons_of_mem _ m_fl_X1_24)
  have kf27 := hts _ (List.mem_cons_of_mem _ m_fl_X1_27)
  have kf30 := hts _ (List.mem_cons_of_mem _ m_fl_X1_30)
  have kf33 := hts _ (List.mem_cons_of_mem _ m_fl_X1_33)
  refine (?_ : ∀ (H : Heap) (locs : List Loc), va_P (dC, dI) vwCl (zzC ad cy iC aC) H → va_D A (zzC ad cy iC aC) → va_S A s.heap H locs → W p l e ({ frames := 0, cells := 0, slots := 0, locals := 0 } : Room) s m args below meth c H locs 0 0 QQ (F0 m 0 ls [])) s.heap [] hP hD hS
  clear hP hD hS
  have B3 : ∀ (n : Nat) (v1 : Int32) (v2 : Int32) (v3 : Int32) (v4 : Int32) (v5 : Int32) (H : Heap) (locs : List Loc) (ls : Array Slot), f_C_atomFor_3 N (iC 9) (aC 5) (aC 6) (aC 7) (aC 8) v1 v2 v3 v4 n v5 = some q → va_P (dC, dI) vwCl (zzC ad cy iC aC) H → va_D A (zzC ad cy iC aC) → va_S A s.heap H locs → lv_has ls 6 [(0, .ref (ad 0)), (1, .int v1), (2, .int v2), (3, .int v3), (4, .int v4), (5, .int v5)] → W p l e ({ frames := 0, cells := 0, slots := 0, locals := 0 } : Room) s m args below meth c H locs 0 0 QQ (F0 m 3 ls []) := by
    intro n
    induction n with
    | zero =>
      intro v1 v2 v3 v4 v5 H locs ls h hP hD hS hl
      rw [f_C_atomFor_3] at h
      cases h
    | succ n ih =>
      intro v1 v2 v3 v4 v5 H locs ls h hP hD hS hl
      rw [f_C_atomFor_3] at h
      refine lv_iload hx hb dX1_atomFor_3 (lv_at hl 5 rfl) ?_
      refine lv_aload_n hx hb dX1_atomFor_5 rfl (lv_at hl 0 rfl) ?_
      refine va_get (D := (dC, dI)) (ci := 1) (v := .int (iC 9)) (C := RX1) (T := TX1) (N := 10) hx hb hts ki1 hown hK hP 0 rfl rfl 9 (by decide) kf40 (fun _ h9 => h9) rfl dX1_atomFor_6 ?_
      refine lv_icmp_ge (tgt := 66) hx hb dX1_atomFor_9 (by decide) (fun cz => ?_) (fun cz => ?_)
      · have h := g_t h cz
        refine lv_aload_n hx hb dX1_atomFor_66 rfl (lv_at hl 0 rfl) ?_
        refine va_get (D := (dC, dI)) (ci := 1) (v := .int (iC 9)) (C := RX1) (T := TX1) (N := 10) hx hb hts ki1 hown hK hP 0 rfl rfl 9 (by decide) kf40 (fun _ h9 => h9) rfl dX1_atomFor_67 ?_
        refine lv_bipush (v := 9) hx hb dX1_atomFor_70 (by decide) ?_
        refine lv_icmp_lt (tgt := 77) hx hb dX1_atomFor_72 (by decide) (fun cz => ?_) (fun cz => ?_)
        · have h := g_t h cz
          refine lv_aload_n hx hb dX1_atomFor_77 rfl (lv_at hl 0 rfl) ?_
          refine va_get (D := (dC, dI)) (ci := 1) (v := .ref (ad 5)) (C := RX1) (T := TX1) (N := 10) hx hb hts ki1 hown hK hP 0 rfl rfl 5 (by decide) kf24 (fun _ h9 => h9) rfl dX1_atomFor_78 ?_
          refine lv_aload_n hx hb dX1_atomFor_81 rfl (lv_at hl 0 rfl) ?_
          refine va_get (D := (dC, dI)) (ci := 1) (v := .int (iC 9)) (C := RX1) (T := TX1) (N := 10) hx hb hts ki1 hown hK hP 0 rfl rfl 9 (by decide) kf40 (fun _ h9 => h9) rfl dX1_atomFor_82 ?_
          refine lv_iload_n hx hb dX1_atomFor_85 rfl (lv_at hl 1 rfl) ?_
          obtain ⟨g_10, h⟩ := g_n h
          refine va_iast (f := (aC 5)) hx hb hK hP hD hS 5 0 rfl rfl g_10 dX1_atomFor_86 (fun H locs hP hD hS => ?_)
          have hP : va_P (dC, dI) vwCl (zzC ad cy iC (us aC [(5, (upd (aC 5) (iC 9).toNatClampNeg v1))])) H := Eq.mp (congrArg (fun w => va_P (dC, dI) vwCl w H) (sfC_aC5 ad cy iC aC ((upd (aC 5) (iC 9).toNatClampNeg v1)))) hP
          have hD : va_D A (zzC ad cy iC (us aC [(5, (upd (aC 5) (iC 9).toNatClampNeg v1))])) := Eq.mp (congrArg (fun w => va_D A w) (sfC_aC5 ad cy iC aC ((upd (aC 5) (iC 9).toNatClampNeg v1)))) hD
          refine lv_aload_n hx hb dX1_atomFor_87 rfl (lv_at hl 0 rfl) ?_
          refine va_get (D := (dC, dI)) (ci := 1) (v := .ref (ad 6)) (C := RX1) (T := TX1) (N := 10) hx hb hts ki1 hown hK hP 0 rfl rfl 6 (by decide) kf27 (fun _ h9 => h9) rfl dX1_atomFor_88 ?_
          refine lv_aload_n hx hb dX1_atomFor_91 rfl (lv_at hl 0 rfl) ?_
          refine va_get (D := (dC, dI)) (ci := 1) (v := .int (iC 9)) (C := RX1) (T := TX1) (N := 10) hx hb hts ki1 hown hK hP 0 rfl rfl 9 (by decide) kf40 (fun _ h9 => h9) rfl dX1_atomFor_92 ?_
          refine lv_iload_n hx hb dX1_atomFor_95 rfl (lv_at hl 2 rfl) ?_
          refine va_iast (f := (aC 6)) hx hb hK hP hD hS 6 0 rfl rfl g_10 dX1_atomFor_96 (fun H locs hP hD hS => ?_)
          have hP : va_P (dC, dI) vwCl (zzC ad cy iC (us aC [(5, (upd (aC 5) (iC 9).toNatClampNeg v1)), (6, (upd (aC 6) (iC 9).toNatClampNeg v2))])) H := Eq.mp (congrArg (fun w => va_P (dC, dI) vwCl w H) (stC_aC6 ad cy iC aC [(5, (upd (aC 5) (iC 9).toNatClampNeg v1))] ((upd (aC 6) (iC 9).toNatClampNeg v2)))) hP
          have hD : va_D A (zzC ad cy iC (us aC [(5, (upd (aC 5) (iC 9).toNatClampNeg v1)), (6, (upd (aC 6) (iC 9).toNatClampNeg v2))])) := Eq.mp (congrArg (fun w => va_D A w) (stC_aC6 ad cy iC aC [(5, (upd (aC 5) (iC 9).toNatClampNeg v1))] ((upd (aC 6) (iC 9).toNatClampNeg v2)))) hD
          refine lv_aload_n hx hb dX1_atomFor_97 rfl (lv_at hl 0 rfl) ?_
          refine va_get (D := (dC, dI)) (ci := 1) (v := .ref (ad 7)) (C := RX1) (T := TX1) (N := 10) hx hb hts ki1 hown hK hP 0 rfl rfl 7 (by decide) kf30 (fun _ h9 => h9) rfl dX1_atomFor_98 ?_
          refine lv_aload_n hx hb dX1_atomFor_101 rfl (lv_at hl 0 rfl) ?_
          refine va_get (D := (dC, dI)) (ci := 1) (v := .int (iC 9)) (C := RX1) (T := TX1) (N := 10) hx hb hts ki1 hown hK hP 0 rfl rfl 9 (by decide) kf40 (fun _ h9 => h9) rfl dX1_atomFor_102 ?_
          refine lv_iload_n hx hb dX1_atomFor_105 rfl (lv_at hl 3 rfl) ?_
          refine va_iast (f := (aC 7)) hx hb hK hP hD hS 7 0 rfl rfl g_10 dX1_atomFor_106 (fun H locs hP hD hS => ?_)
          have hP : va_P (dC, dI) vwCl (zzC ad cy iC (us aC [(5, (upd (aC 5) (iC 9).toNatClampNeg v1)), (6, (upd (aC 6) (iC 9).toNatClampNeg v2)), (7, (upd (aC 7) (iC 9).toNatClampNeg v3))])) H := Eq.mp (congrArg (fun w => va_P (dC, dI) vwCl w H) (stC_aC7 ad cy iC aC [(5, (upd (aC 5) (iC 9).toNatClampNeg v1)), (6, (upd (aC 6) (iC 9).toNatClampNeg v2))] ((upd (aC 7) (iC 9).toNatClampNeg v3)))) hP
          have hD : va_D A (zzC ad cy iC (us aC [(5, (upd (aC 5) (iC 9).toNatClampNeg v1)), (6, (upd (aC 6) (iC 9).toNatClampNeg v2)), (7, (upd (aC 7) (iC 9).toNatClampNeg v3))])) := Eq.mp (congrArg (fun w => va_D A w) (stC_aC7 ad cy iC aC [(5, (upd (aC 5) (iC 9).toNatClampNeg v1)), (6, (upd (aC 6) (iC 9).toNatClampNeg v2))] ((upd (aC 7) (iC 9).toNatClampNeg v3)))) hD
          refine lv_aload_n hx hb dX1_atomFor_107 rfl (lv_at hl 0 rfl) ?_
          refine va_get (D := (dC, dI)) (ci := 1) (v := .ref (ad 8)) (C := RX1) (T := TX1) (N := 10) hx hb hts ki1 hown hK hP 0 rfl rfl 8 (by decide) kf33 (fun _ h9 => h9) rfl dX1_atomFor_108 ?_
          refine lv_aload_n hx hb dX1_atomFor_111 rfl (lv_at hl 0 rfl) ?_
          refine va_get (D := (dC, dI)) (ci := 1) (v := .int (iC 9)) (C := RX1) (T := TX1) (N := 10) hx hb hts ki1 hown hK hP 0 rfl rfl 9 (by decide) kf40 (fun _ h9 => h9) rfl dX1_atomFor_112 ?_
          refine lv_iload hx hb dX1_atomFor_115 (lv_at hl 4 rfl) ?_
          refine va_iast (f := (aC 8)) hx hb hK hP hD hS 8 0 rfl rfl g_10 dX1_atomFor_117 (fun H locs hP hD hS => ?_)
          have hP : va_P (dC, dI) vwCl (zzC ad cy iC (us aC [(5, (upd (aC 5) (iC 9).toNatClampNeg v1)), (6, (upd (aC 6) (iC 9).toNatClampNeg v2)), (7, (upd (aC 7) (iC 9).toNatClampNeg v3)), (8, (upd (aC 8) (iC 9).toNatClampNeg v4))])) H := Eq.mp (congrArg (fun w => va_P (dC, dI) vwCl w H) (stC_aC8 ad cy iC aC [(5, (upd (aC 5) (iC 9).toNatClampNeg v1)), (6, (upd (aC 6) (iC 9).toNatClampNeg v2)), (7, (upd (aC 7) (iC 9).toNatClampNeg v3))] ((upd (aC 8) (iC 9).toNatClampNeg v4)))) hP
          have hD : va_D A (zzC ad cy iC (us aC [(5, (upd (aC 5) (iC 9).toNatClampNeg v1)), (6, (upd (aC 6) (iC 9).toNatClampNeg v2)), (7, (upd (aC 7) (iC 9).toNatClampNeg v3)), (8, (upd (aC 8) (iC 9).toNatClampNeg v4))])) := Eq.mp (congrArg (fun w => va_D A w) (stC_aC8 ad cy iC aC [(5, (upd (aC 5) (iC 9).toNatClampNeg v1)), (6, (upd (aC 6) (iC 9).toNatClampNeg v2)), (7, (upd (aC 7) (iC 9).toNatClampNeg v3))] ((upd (aC 8) (iC 9).toNatClampNeg v4)))) hD
          refine lv_aload_n hx hb dX1_atomFor_118 rfl (lv_at hl 0 rfl) ?_
          refine lv_dup hx hb dX1_atomFor_119 rfl ?_
          refine va_get (D := (dC, dI)) (ci := 1) (v := .int (iC 9)) (C := RX1) (T := TX1) (N := 10) hx hb hts ki1 hown hK hP 0 rfl rfl 9 (by decide) kf40 (fun _ h9 => h9) rfl dX1_atomFor_120 ?_
          refine lv_iconst (v := 1) hx hb dX1_atomFor_123 (by decide) ?_
          refine lv_iadd hx hb dX1_atomFor_124 ?_
          refine va_put (D := (dC, dI)) (ci := 1) (v := .int (((iC 9) + (1 : Int32)))) (ty := .int) (C := RX1) (T := TX1) (N := 10) hx hb hts ki1 tyX1 tyX1_ok nmX1 hown hK hP hD hS 0 rfl rfl 9 (by decide) kf40 (fun _ h9 => h9) rfl (by decide +kernel) rfl rfl (Nat.le_of_ble_eq_true rfl) dX1_atomFor_125 (fun H locs hP hD hS => ?_)
          have hP : va_P (dC, dI) vwCl (zzC ad cy (us iC [(9, ((iC 9) + (1 : Int32)))]) (us aC [(5, (upd (aC 5) (iC 9).toNatClampNeg v1)), (6, (upd (aC 6) (iC 9).toNatClampNeg v2)), (7, (upd (aC 7) (iC 9).toNatClampNeg v3)), (8, (upd (aC 8) (iC 9).toNatClampNeg v4))])) H := Eq.mp (congrArg (fun w => va_P (dC, dI) vwCl w H) (sfC_iC9 ad cy iC (us aC [(5, (upd (aC 5) (iC 9).toNatClampNeg v1)), (6, (upd (aC 6) (iC 9).toNatClampNeg v2)), (7, (upd (aC 7) (iC 9).toNatClampNeg v3)), (8, (upd (aC 8) (iC 9).toNatClampNeg v4))]) (((iC 9) + (1 : Int32))))) hP
          have hD : va_D A (zzC ad cy (us iC [(9, ((iC 9) + (1 : Int32)))]) (us aC [(5, (upd (aC 5) (iC 9).toNatClampNeg v1)), (6, (upd (aC 6) (iC 9).toNatClampNeg v2)), (7, (upd (aC 7) (iC 9).toNatClampNeg v3)), (8, (upd (aC 8) (iC 9).toNatClampNeg v4))])) := Eq.mp (congrArg (fun w => va_D A w) (sfC_iC9 ad cy iC (us aC [(5, (upd (aC 5) (iC 9).toNatClampNeg v1)), (6, (upd (aC 6) (iC 9).toNatClampNeg v2)), (7, (upd (aC 7) (iC 9).toNatClampNeg v3)), (8, (upd (aC 8) (iC 9).toNatClampNeg v4))]) (((iC 9) + (1 : Int32))))) hD
          refine lv_aload_n hx hb dX1_atomFor_128 rfl (lv_at hl 0 rfl) ?_
          refine va_get (D := (dC, dI)) (ci := 1) (v := .int (((iC 9) + (1 : Int32)))) (C := RX1) (T := TX1) (N := 10) hx hb hts ki1 hown hK hP 0 rfl rfl 9 (by decide) kf40 (fun _ h9 => h9) rfl dX1_atomFor_129 ?_
          refine lv_iconst (v := 1) hx hb dX1_atomFor_132 (by decide) ?_
          refine lv_isub hx hb dX1_atomFor_133 ?_
          have h' := Option.some.inj h
          rw [← hQQ]
          exact W.iret (v := (((iC 9) + (1 : Int32)) - (1 : Int32))) hx hb hr (fun t ht hW => ⟨⟨(((iC 9) + (1 : Int32)) - (1 : Int32)), (), rfl, by rw [← h'], by rw [← hWQ, ← h', ht]; exact hP, va_K.moved hW.alike hK⟩, hS.F ht⟩) hS.2.2 dX1_atomFor_134
        · have h := g_f h cz
          refine lv_iconst (v := (-1)) hx hb dX1_atomFor_75 (by decide) ?_
          have h' := Option.some.inj h
          rw [← hQQ]
          exact W.iret (v := (-1 : Int32)) hx hb hr (fun t ht hW => ⟨⟨(-1 : Int32), (), rfl, by rw [← h'], by rw [← hWQ, ← h', ht]; exact hP, va_K.moved hW.alike hK⟩, hS.F ht⟩) hS.2.2 dX1_atomFor_76
      · have h := g_f h cz
        refine lv_aload_n hx hb dX1_atomFor_12 rfl (lv_at hl 0 rfl) ?_
        refine va_get (D := (dC, dI)) (ci := 1) (v := .ref (ad 5)) (C := RX1) (T := TX1) (N := 10) hx hb hts ki1 hown hK hP 0 rfl rfl 5 (by decide) kf24 (fun _ h9 => h9) rfl dX1_atomFor_13 ?_
        refine lv_iload hx hb dX1_atomFor_16 (lv_at hl 5 rfl) ?_
        obtain ⟨g_11, h⟩ := g_n h
        refine va_iald (f := (aC 5)) hx hb hK hP 5 0 rfl rfl g_11 dX1_atomFor_18 ?_
        refine lv_iload_n hx hb dX1_atomFor_19 rfl (lv_at hl 1 rfl) ?_
        refine lv_icmp_ne (tgt := 60) hx hb dX1_atomFor_20 (by decide) (fun cz => ?_) (fun cz => ?_)
        · have h := g_f h cz
          refine lv_iinc (v := (v5 + (1 : Int32))) (lv' := [(5, .int ((v5 + (1 : Int32)))), (0, .ref (ad 0)), (1, .int v1), (2, .int v2), (3, .int v3), (4, .int v4)]) hx hb dX1_atomFor_60 hl (k := 5) rfl rfl (by decide) rfl (fun ls hl => ?_)
          refine lv_goto (tgt := 3) hx hb dX1_atomFor_63 (by decide) ?_
          exact ih v1 v2 v3 v4 ((v5 + (1 : Int32))) H locs ls h hP hD hS (lv_sub hl [1, 2, 3, 4, 5, 0] rfl)
        · have h := g_t h cz
          refine lv_aload_n hx hb dX1_atomFor_23 rfl (lv_at hl 0 rfl) ?_
          refine va_get (D := (dC, dI)) (ci := 1) (v := .ref (ad 6)) (C := RX1) (T := TX1) (N := 10) hx hb hts ki1 hown hK hP 0 rfl rfl 6 (by decide) kf27 (fun _ h9 => h9) rfl dX1_atomFor_24 ?_
          refine lv_iload hx hb dX1_atomFor_27 (lv_at hl 5 rfl) ?_
          refine va_iald (f := (aC 6)) hx hb hK hP 6 0 rfl rfl g_11 dX1_atomFor_29 ?_
          refine lv_iload_n hx hb dX1_atomFor_30 rfl (lv_at hl 2 rfl) ?_
          refine lv_icmp_ne (tgt := 60) hx hb dX1_atomFor_31 (by decide) (fun cz => ?_) (fun cz => ?_)
          · have h := g_f h cz
            refine lv_iinc (v := (v5 + (1 : Int32))) (lv' := [(5, .int ((v5 + (1 : Int32)))), (0, .ref (ad 0)), (1, .int v1), (2, .int v2), (3, .int v3), (4, .int v4)]) hx hb dX1_atomFor_60 hl (k := 5) rfl rfl (by decide) rfl (fun ls hl => ?_)
            refine lv_goto (tgt := 3) hx hb dX1_atomFor_63 (by decide) ?_
            exact ih v1 v2 v3 v4 ((v5 + (1 : Int32))) H locs ls h hP hD hS (lv_sub hl [1, 2, 3, 4, 5, 0] rfl)
          · have h := g_t h cz
            refine lv_aload_n hx hb dX1_atomFor_34 rfl (lv_at hl 0 rfl) ?_
            refine va_get (D := (dC, dI)) (ci := 1) (v := .ref (ad 7)) (C := RX1) (T := TX1) (N := 10) hx hb hts ki1 hown hK hP 0 rfl rfl 7 (by decide) kf30 (fun _ h9 => h9) rfl dX1_atomFor_35 ?_
            refine lv_iload hx hb dX1_atomFor_38 (lv_at hl 5 rfl) ?_
            refine va_iald (f := (aC 7)) hx hb hK hP 7 0 rfl rfl g_11 dX1_atomFor_40 ?_
            refine lv_iload_n hx hb dX1_atomFor_41 rfl (lv_at hl 3 rfl) ?_
            refine lv_icmp_ne (tgt := 60) hx hb dX1_atomFor_42 (by decide) (fun cz => ?_) (fun cz => ?_)
            · have h := g_f h cz
              refine lv_iinc (v := (v5 + (1 : Int32))) (lv' := [(5, .int ((v5 + (1 : Int32)))), (0, .ref (ad 0)), (1, .int v1), (2, .int v2), (3, .int v3), (4, .int v4)]) hx hb dX1_atomFor_60 hl (k := 5) rfl rfl (by decide) rfl (fun ls hl => ?_)
              refine lv_goto (tgt := 3) hx hb dX1_atomFor_63 (by decide) ?_
              exact ih v1 v2 v3 v4 ((v5 + (1 : Int32))) H locs ls h hP hD hS (lv_sub hl [1, 2, 3, 4, 5, 0] rfl)
            · have h := g_t h cz
              refine lv_aload_n hx hb dX1_atomFor_45 rfl (lv_at hl 0 rfl) ?_
              refine va_get (D := (dC, dI)) (ci := 1) (v := .ref (ad 8)) (C := RX1) (T := TX1) (N := 10) hx hb hts ki1 hown hK hP 0 rfl rfl 8 (by decide) kf33 (fun _ h9 => h9) rfl dX1_atomFor_46 ?_
              refine lv_iload hx hb dX1_atomFor_49 (lv_at hl 5 rfl) ?_
              refine va_iald (f := (aC 8)) hx hb hK hP 8 0 rfl rfl g_11 dX1_atomFor_51 ?_
              refine lv_iload hx hb dX1_atomFor_52 (lv_at hl 4 rfl) ?_
              refine lv_icmp_ne (tgt := 60) hx hb dX1_atomFor_54 (by decide) (fun cz => ?_) (fun cz => ?_)
              · have h := g_f h cz
                refine lv_iinc (v := (v5 + (1 : Int32))) (lv' := [(5, .int ((v5 + (1 : Int32)))), (0, .ref (ad 0)), (1, .int v1), (2, .int v2), (3, .int v3), (4, .int v4)]) hx hb dX1_atomFor_60 hl (k := 5) rfl rfl (by decide) rfl (fun ls hl => ?_)
                refine lv_goto (tgt := 3) hx hb dX1_atomFor_63 (by decide) ?_
                exact ih v1 v2 v3 v4 ((v5 + (1 : Int32))) H locs ls h hP hD hS (lv_sub hl [1, 2, 3, 4, 5, 0] rfl)
              · have h := g_t h cz
                refine lv_iload hx hb dX1_atomFor_57 (lv_at hl 5 rfl) ?_
                have h' := Option.some.inj h
                rw [← hQQ]
                exact W.iret (v := v5) hx hb hr (fun t ht hW => ⟨⟨v5, (), rfl, by rw [← h'], by rw [← hWQ, ← h', ht]; exact hP, va_K.moved hW.alike hK⟩, hS.F ht⟩) hS.2.2 dX1_atomFor_59
  intro H locs hP hD hS
  unfold f_C_atomFor at h
  refine lv_iconst (v := 0) hx hb dX1_atomFor_0 (by decide) ?_
  refine lv_istore (lv' := [(5, .int ((0 : Int32))), (0, .ref (ad 0)), (1, .int a1), (2, .int a2), (3, .int a3), (4, .int a4)]) hx hb dX1_atomFor_1 hl (by decide) rfl (fun ls hl => ?_)
  exact B3 N a1 a2 a3 a4 ((0 : Int32)) H locs ls h hP hD hS (lv_sub hl [1, 2, 3, 4, 5, 0] rfl)
set_option maxHeartbeats 8000000 in
set_option maxRecDepth 100000 in
theorem c_C_leftOf (l : Launch) (dC : Nat → ClassId) (dI : Nat → Nat → Nat) (cy : Nat → ClassId) (ad : Nat → Nat) (sz : Nat) (a1 : Int32) (iC : Nat → Int32) (aC : Nat → Nat → Int32) (q : Int32) (h : f_C_leftOf a1 (iC 4) (aC 1) = some q) : Met l yX1_leftOf wsX1_leftOf ({ frames := 0, cells := 0, slots := 0, locals := 0 } : Room) (cP (dC, dI) cy [.ref (ad 0), .int a1] (zzC ad cy iC aC) sz) (cQi (dC, dI) cy q (zzC ad cy iC aC) (va_A (zzC ad cy iC aC) sz)) 0 0 (va_A (zzC ad cy iC aC) sz) := by
  refine Met.ofW (cc := cX1_leftOf) (maxL := 2) (ret := (some .int)) (by decide) rfl ?_
  intro p e s m args below meth c s₁ B hml hv
  obtain ⟨hav, hsz, hP, hK, hD0, hN⟩ := hv
  have hx := B.exec
  have hb := B.bytes
  have hr := B.returns
  have hts := atoms_spec (ws := wsX1_leftOf) B.pre
  have hown : s.vm.findClass RX1 = some m.cls := findClass_of_methodNamed B.named
  have hlocks := B.notSynchronized
  subst hsz
  have hD := hD0.self (sz := s.heap.size)
  generalize hAe : va_A (zzC ad cy iC aC) s.heap.size = A at hD ⊢
  have hA : ∀ q : Nat, s.heap.size ≤ q → A q := fun q h => by rw [← hAe]; exact Or.inr h
  have hS : va_S A s.heap s.heap [] := va_S.rf
  generalize hWQ : (zzC ad cy iC aC) = WQ
  generalize hQQ : MQ below (cQi (dC, dI) cy q WQ A) args s 0 0 A = QQ
  have hl := lv_entry ([.ref (ad 0), .int a1] : List Value) (n := 2) (Nat.le_of_ble_eq_true rfl)
  have hfr := lg_entry_eq m ([.ref (ad 0), .int a1] : List Value) 2
  rw [← hav] at hfr
  rw [hfr]
  clear hfr hav
  generalize (lg_sl ([.ref (ad 0), .int a1] : List Value) ++ List.replicate (2 - (lg_sl ([.ref (ad 0), .int a1] : List Value)).length) Slot.unset).toArray = ls at hl ⊢
  have hl : lv_has ls 2 [(0, .ref (ad 0)), (1, .int a1)] := hl
  have kf36 := hts _ (List.mem_cons_of_mem _ m_fl_X1_36)
  have ki1 := (fun w h => List.mem_cons_of_mem _ (i_X1 w h) : ∀ w ∈ u_ws RX1 TX1 10, w ∈ wsX1_leftOf)
  have kf15 := hts _ (List.mem_cons_of_mem _ m_fl_X1_15)
  refine (?_ : ∀ (H : Heap) (locs : List Loc), va_P (dC, dI) vwCl (zzC ad cy iC aC) H → va_D A (zzC ad cy iC aC) → va_S A s.heap H locs → W p l e ({ frames := 0, cells := 0, slots := 0, locals := 0 } : Room) s m args below meth c H locs 0 0 QQ (F0 m 0 ls [])) s.heap [] hP hD hS
  clear hP hD hS
  intro H locs hP hD hS
  unfold f_C_leftOf at h
  refine lv_iload_n hx hb dX1_leftOf_0 rfl (lv_at hl 1 rfl) ?_
  refine lv_if_lt (tgt := 21) hx hb dX1_leftOf_1 (by decide) (fun cz => ?_) (fun cz => ?_)
  · have h := g_t h cz
    refine lv_iconst (v := (-1)) hx hb dX1_leftOf_21 (by decide) ?_
    have h' := Option.some.inj h
    rw [← hQQ]
    exact W.iret (v := (-1 : Int32)) hx hb hr (fun t ht hW => ⟨⟨(-1 : Int32), (), rfl, by rw [← h'], by rw [← hWQ, ht]; exact hP, va_K.moved hW.alike hK⟩, hS.F ht⟩) hS.2.2 dX1_leftOf_22
  · have h := g_f h cz
    refine lv_iload_n hx hb dX1_leftOf_4 rfl (lv_at hl 1 rfl) ?_
    refine lv_aload_n hx hb dX1_leftOf_5 rfl (lv_at hl 0 rfl) ?_
    refine va_get (D := (dC, dI)) (ci := 1) (v := .int (iC 4)) (C := RX1) (T := TX1) (N := 10) hx hb hts ki1 hown hK hP 0 rfl rfl 4 (by decide) kf36 (fun _ h9 => h9) rfl dX1_leftOf_6 ?_
    refine lv_icmp_ge (tgt := 21) hx hb dX1_leftOf_9 (by decide) (fun cz => ?_) (fun cz => ?_)
    · have h := g_t h cz
      refine lv_iconst (v := (-1)) hx hb dX1_leftOf_21 (by decide) ?_
      have h' := Option.some.inj h
      rw [← hQQ]
      exact W.iret (v := (-1 : Int32)) hx hb hr (fun t ht hW => ⟨⟨(-1 : Int32), (), rfl, by rw [← h'], by rw [← hWQ, ht]; exact hP, va_K.moved hW.alike hK⟩, hS.F ht⟩) hS.2.2 dX1_leftOf_22
    · have h := g_f h cz
      refine lv_aload_n hx hb dX1_leftOf_12 rfl (lv_at hl 0 rfl) ?_
      refine va_get (D := (dC, dI)) (ci := 1) (v := .ref (ad 2)) (C := RX1) (T := TX1) (N := 10) hx hb hts ki1 hown hK hP 0 rfl rfl 1 (by decide) kf15 (fun _ h9 => h9) rfl dX1_leftOf_13 ?_
      refine lv_iload_n hx hb dX1_leftOf_16 rfl (lv_at hl 1 rfl) ?_
      obtain ⟨g_9, h⟩ := g_n h
      refine va_iald (f := (aC 1)) hx hb hK hP 2 0 rfl rfl g_9 dX1_leftOf_17 ?_
      refine lv_goto (tgt := 22) hx hb dX1_leftOf_18 (by decide) ?_
      have h' := Option.some.inj h
      rw [← hQQ]
      exact W.iret (v := ((aC 1) a1.toNatClampNeg)) hx hb hr (fun t ht hW => ⟨⟨((aC 1) a1.toNatClampNeg), (), rfl, by rw [← h'], by rw [← hWQ, ht]; exact hP, va_K.moved hW.alike hK⟩, hS.F ht⟩) hS.2.2 dX1_leftOf_22
set_option maxHeartbeats 8000000 in
set_option maxRecDepth 100000 in
theorem c_C_atomOfRole (l : Launch) (dC : Nat → ClassId) (dI : Nat → Nat → Nat) (cy : Nat → ClassId) (ad : Nat → Nat) (sz : Nat) (N : Nat) (a1 : Int32) (a2 : Int32) (a3 : Int32) (iC : Nat → Int32) (aC : Nat → Nat → Int32) (q : Int32 × Int32 × (Nat → Int32) × (Nat → Int32) × (Nat → Int32) × (Nat → Int32)) (h : f_C_atomOfRole N a1 a2 a3 (iC 4) (iC 9) (aC 0) (aC 1) (aC 5) (aC 6) (aC 7) (aC 8) = some q) : Met l yX1_atomOfRole wsX1_atomOfRole ({ frames := 1, cells := 0, slots := 0, locals := 25 } : Room) (cP (dC, dI) cy [.ref (ad 0), .int a1, .int a2, .int a3] (zzC ad cy iC aC) sz) (cQi (dC, dI) cy q.1 (zzC ad cy (us iC [(9, q.2.1)]) (us aC [(5, q.2.2.1), (6, q.2.2.2.1), (7, q.2.2.2.2.1), (8, q.2.2.2.2.2)])) (va_A (zzC ad cy iC aC) sz)) 0 0 (va_A (zzC ad cy iC aC) sz) := by
  refine Met.ofW (cc := cX1_atomOfRole) (maxL := 4) (ret := (some .int)) (by decide) rfl ?_
  intro p e s m args below meth c s₁ B hml hv
  obtain ⟨hav, hsz, hP, hK, hD0, hN⟩ := hv
  have hx := B.exec
  have hb := B.bytes
  have hr := B.returns
  have hts := atoms_spec (ws := wsX1_atomOfRole) B.pre
  have hown : s.vm.findClass RX1 = some m.cls := findClass_of_methodNamed B.named
  have hlocks := B.notSynchronized
  subst hsz
  have hD := hD0.self (sz := s.heap.size)
  generalize hAe : va_A (zzC ad cy iC aC) s.heap.size = A at hD ⊢
  have hA : ∀ q : Nat, s.heap.size ≤ q → A q := fun q h => by rw [← hAe]; exact Or.inr h
  have hS : va_S A s.heap s.heap [] := va_S.rf
  generalize hWQ : (zzC ad cy (us iC [(9, q.2.1)]) (us aC [(5, q.2.2.1), (6, q.2.2.2.1), (7, q.2.2.2.2.1), (8, q.2.2.2.2.2)])) = WQ
  generalize hQQ : MQ below (cQi (dC, dI) cy q.1 WQ A) args s 0 0 A = QQ
  have hl := lv_entry ([.ref (ad 0), .int a1, .int a2, .int a3] : List Value) (n := 4) (Nat.le_of_ble_eq_true rfl)
  have hfr := lg_entry_eq m ([.ref (ad 0), .int a1, .int a2, .int a3] : List Value) 4
  rw [← hav] at hfr
  rw [hfr]
  clear hfr hav
  generalize (lg_sl ([.ref (ad 0), .int a1, .int a2, .int a3] : List Value) ++ List.replicate (4 - (lg_sl ([.ref (ad 0), .int a1, .int a2, .int a3] : List Value)).length) Slot.unset).toArray = ls at hl ⊢
  have hl : lv_has ls 4 [(0, .ref (ad 0)), (1, .int a1), (2, .int a2), (3, .int a3)] := hl
  refine (?_ : ∀ (H : Heap) (locs : List Loc), va_P (dC, dI) vwCl (zzC ad cy iC aC) H → va_D A (zzC ad cy iC aC) → va_S A s.heap H locs → W p l e ({ frames := 1, cells := 0, slots := 0, locals := 25 } : Room) s m args below meth c H locs 0 0 QQ (F0 m 0 ls [])) s.heap [] hP hD hS
  clear hP hD hS
  have B26 : ∀ (v1 : Int32) (v2 : Int32) (v3 : Int32) (H : Heap) (locs : List Loc) (ls : Array Slot), f_C_atomOfRole_26 N (iC 4) (iC 9) (aC 0) (aC 1) (aC 5) (aC 6) (aC 7) (aC 8) v1 v2 v3 = some q → va_P (dC, dI) vwCl (zzC ad cy iC aC) H → va_D A (zzC ad cy iC aC) → va_S A s.heap H locs → lv_has ls 4 [(0, .ref (ad 0)), (1, .int v1), (2, .int v2), (3, .int v3)] → W p l e ({ frames := 1, cells := 0, slots := 0, locals := 25 } : Room) s m args below meth c H locs 0 0 QQ (F0 m 26 ls []) := by
    intro v1 v2 v3 H locs ls h hP hD hS hl
    unfold f_C_atomOfRole_26 at h
    refine lv_aload_n hx hb dX1_atomOfRole_26 rfl (lv_at hl 0 rfl) ?_
    refine lv_iload_n hx hb dX1_atomOfRole_27 rfl (lv_at hl 1 rfl) ?_
    refine lv_iconst (v := (-1)) hx hb dX1_atomOfRole_28 (by decide) ?_
    refine lv_iload_n hx hb dX1_atomOfRole_29 rfl (lv_at hl 2 rfl) ?_
    refine lv_iload_n hx hb dX1_atomOfRole_30 rfl (lv_at hl 3 rfl) ?_
    obtain ⟨q31, e31, h⟩ := g_b h
    refine callVis (cc := cX1_atomOfRole) (w1 := zzC ad cy (us iC [(9, q31.2.1)]) (us aC [(5, q31.2.2.1), (6, q31.2.2.2.1), (7, q31.2.2.2.2.1), (8, q31.2.2.2.2.2)])) (As := [.int v1, .int ((-1 : Int32)), .int v2, .int v3]) (rest := []) ⟨hx, hb, hml, hown, hts⟩ (c_C_atomFor l dC dI cy ad H.size N v1 ((-1 : Int32)) v2 v3 iC aC q31 e31) (cwV 4 hts (goodV m_ml_X1_47 m_im_X1_atomFor m_se_X1_atomFor m_in_X1 m_cd_X1_atomFor) rfl rfl rfl (by decide +kernel) ⟨Nat.le_of_ble_eq_true rfl, Nat.le_of_ble_eq_true rfl⟩) hN hK hP hD hS hA rfl 0 rfl rfl rfl hl.1 rfl (Nat.le_of_ble_eq_true rfl) dX1_atomOfRole_31 ⟨Nat.zero_le _, Nat.zero_le _⟩ (fun H locs hP hD hS => ?_)
    have h' := Option.some.inj h
    rw [← hQQ]
    exact W.iret (v := q31.1) hx hb hr (fun t ht hW => ⟨⟨q31.1, (), rfl, by rw [← h'], by rw [← hWQ, ← h', ht]; exact hP, va_K.moved hW.alike hK⟩, hS.F ht⟩) hS.2.2 dX1_atomOfRole_34
  intro H locs hP hD hS
  unfold f_C_atomOfRole at h
  refine lv_iload_n hx hb dX1_atomOfRole_0 rfl (lv_at hl 3 rfl) ?_
  refine lv_if_ne (tgt := 26) hx hb dX1_atomOfRole_1 (by decide) (fun cz => ?_) (fun cz => ?_)
  · have h := g_f h cz
    exact B26 a1 a2 a3 H locs ls h hP hD hS (lv_sub hl [0, 1, 2, 3] rfl)
  · have h := g_t h cz
    refine lv_aload_n hx hb dX1_atomOfRole_4 rfl (lv_at hl 0 rfl) ?_
    refine lv_iload_n hx hb dX1_atomOfRole_5 rfl (lv_at hl 2 rfl) ?_
    obtain ⟨q6, e6, h⟩ := g_b h
    refine callVis (cc := cX1_atomOfRole) (w1 := zzC ad cy iC aC) (As := [.int a2]) (rest := []) ⟨hx, hb, hml, hown, hts⟩ (c_C_sortOf l dC dI cy ad H.size a2 iC aC q6 e6) (cwV 1 hts (goodV m_ml_X1_54 m_im_X1_sortOf m_se_X1_sortOf m_in_X1 m_cd_X1_sortOf) rfl rfl rfl (by decide +kernel) ⟨Nat.le_of_ble_eq_true rfl, Nat.le_of_ble_eq_true rfl⟩) hN hK hP hD hS hA rfl 0 rfl rfl rfl hl.1 rfl (Nat.le_of_ble_eq_true rfl) dX1_atomOfRole_6 ⟨Nat.zero_le _, Nat.zero_le _⟩ (fun H locs hP hD hS => ?_)
    refine lv_iconst (v := 3) hx hb dX1_atomOfRole_9 (by decide) ?_
    refine lv_icmp_ne (tgt := 26) hx hb dX1_atomOfRole_10 (by decide) (fun cz => ?_) (fun cz => ?_)
    · have h := g_f h cz
      exact B26 a1 a2 a3 H locs ls h hP hD hS (lv_sub hl [0, 1, 2, 3] rfl)
    · have h := g_t h cz
      refine lv_aload_n hx hb dX1_atomOfRole_13 rfl (lv_at hl 0 rfl) ?_
      refine lv_iload_n hx hb dX1_atomOfRole_14 rfl (lv_at hl 1 rfl) ?_
      refine lv_iconst (v := (-1)) hx hb dX1_atomOfRole_15 (by decide) ?_
      refine lv_aload_n hx hb dX1_atomOfRole_16 rfl (lv_at hl 0 rfl) ?_
      refine lv_iload_n hx hb dX1_atomOfRole_17 rfl (lv_at hl 2 rfl) ?_
      obtain ⟨q18, e18, h⟩ := g_b h
      refine callVis (cc := cX1_atomOfRole) (w1 := zzC ad cy iC aC) (As := [.int a2]) (rest := [.int ((-1 : Int32)), .int a1, .ref (ad 0)]) ⟨hx, hb, hml, hown, hts⟩ (c_C_leftOf l dC dI cy ad H.size a2 iC aC q18 e18) (cwV 1 hts (goodV m_ml_X1_58 m_im_X1_leftOf m_se_X1_leftOf m_in_X1 m_cd_X1_leftOf) rfl rfl rfl (by decide +kernel) ⟨Nat.le_of_ble_eq_true rfl, Nat.le_of_ble_eq_true rfl⟩) hN hK hP hD hS hA rfl 0 rfl rfl rfl hl.1 rfl (Nat.le_of_ble_eq_true rfl) dX1_atomOfRole_18 ⟨Nat.zero_le _, Nat.zero_le _⟩ (fun H locs hP hD hS => ?_)
      refine lv_iconst (v := 1) hx hb dX1_atomOfRole_21 (by decide) ?_
      obtain ⟨q22, e22, h⟩ := g_b h
      refine callVis (cc := cX1_atomOfRole) (w1 := zzC ad cy (us iC [(9, q22.2.1)]) (us aC [(5, q22.2.2.1), (6, q22.2.2.2.1), (7, q22.2.2.2.2.1), (8, q22.2.2.2.2.2)])) (As := [.int a1, .int ((-1 : Int32)), .int q18, .int ((1 : Int32))]) (rest := []) ⟨hx, hb, hml, hown, hts⟩ (c_C_atomFor l dC dI cy ad H.size N a1 ((-1 : Int32)) q18 ((1 : Int32)) iC aC q22 e22) (cwV 4 hts (goodV m_ml_X1_47 m_im_X1_atomFor m_se_X1_atomFor m_in_X1 m_cd_X1_atomFor) rfl rfl rfl (by decide +kernel) ⟨Nat.le_of_ble_eq_true rfl, Nat.le_of_ble_eq_true rfl⟩) hN hK hP hD hS hA rfl 0 rfl rfl rfl hl.1 rfl (Nat.le_of_ble_eq_true rfl) dX1_atomOfRole_22 ⟨Nat.zero_le _, Nat.zero_le _⟩ (fun H locs hP hD hS => ?_)
      have h' := Option.some.inj h
      rw [← hQQ]
      exact W.iret (v := q22.1) hx hb hr (fun t ht hW => ⟨⟨q22.1, (), rfl, by rw [← h'], by rw [← hWQ, ← h', ht]; exact hP, va_K.moved hW.alike hK⟩, hS.F ht⟩) hS.2.2 dX1_atomOfRole_25
set_option maxHeartbeats 8000000 in
set_option maxRecDepth 100000 in
theorem c_C_make (l : Launch) (dC : Nat → ClassId) (dI : Nat → Nat → Nat) (cy : Nat → ClassId) (ad : Nat → Nat) (sz : Nat) (N : Nat) (a1 : Int32) (a2 : Int32) (a3 : Int32) (iC : Nat → Int32) (aC : Nat → Nat → Int32) (q : Int32 × Int32 × Int32 × (Nat → Int32) × (Nat → Int32) × (Nat → Int32) × (Nat → Int32) × (Nat → Int32) × (Nat → Int32) × (Nat → Int32) × (Nat → Int32)) (h : f_C_make N a1 a2 a3 (iC 4) (iC 9) (aC 0) (aC 1) (aC 2) (aC 3) (aC 5) (aC 6) (aC 7) (aC 8) = some q) : Met l yX1_make wsX1_make ({ frames := 2, cells := 0, slots := 0, locals := 48 } : Room) (cP (dC, dI) cy [.ref (ad 0), .int a1, .int a2, .int a3] (zzC ad cy iC aC) sz) (cQi (dC, dI) cy q.1 (zzC ad cy (us iC [(4, q.2.1), (9, q.2.2.1)]) (us aC [(0, q.2.2.2.1), (1, q.2.2.2.2.1), (2, q.2.2.2.2.2.1), (3, q.2.2.2.2.2.2.1), (5, q.2.2.2.2.2.2.2.1), (6, q.2.2.2.2.2.2.2.2.1), (7, q.2.2.2.2.2.2.2.2.2.1), (8, q.2.2.2.2.2.2.2.2.2.2)])) (va_A (zzC ad cy iC aC) sz)) 0 0 (va_A (zzC ad cy iC aC) sz) := by
  refine Met.ofW (cc := cX1_make) (maxL := 7) (ret := (some .int)) (by decide) rfl ?_
  intro p e s m args below meth c s₁ B hml hv
  obtain ⟨hav, hsz, hP, hK, hD0, hN⟩ := hv
  have hx := B.exec
  have hb := B.bytes
  have hr := B.returns
  have hts := atoms_spec (ws := wsX1_make) B.pre
  have hown : s.vm.findClass RX1 = some m.cls := findClass_of_methodNamed B.named
  have hlocks := B.notSynchronized
  subst hsz
  have hD := hD0.self (sz := s.heap.size)
  generalize hAe : va_A (zzC ad cy iC aC) s.heap.size = A at hD ⊢
  have hA : ∀ q : Nat, s.heap.size ≤ q → A q := fun q h => by rw [← hAe]; exact Or.inr h
  have hS : va_S A s.heap s.heap [] := va_S.rf
  generalize hWQ : (zzC ad cy (us iC [(4, q.2.1), (9, q.2.2.1)]) (us aC [(0, q.2.2.2.1), (1, q.2.2.2.2.1), (2, q.2.2.2.2.2.1), (3, q.2.2.2.2.2.2.1), (5, q.2.2.2.2.2.2.2.1), (6, q.2.2.2.2.2.2.2.2.1), (7, q.2.2.2.2.2.2.2.2.2.1), (8, q.2.2.2.2.2.2.2.2.2.2)])) = WQ
  generalize hQQ : MQ below (cQi (dC, dI) cy q.1 WQ A) args s 0 0 A = QQ
  have hl := lv_entry ([.ref (ad 0), .int a1, .int a2, .int a3] : List Value) (n := 7) (Nat.le_of_ble_eq_true rfl)
  have hfr := lg_entry_eq m ([.ref (ad 0), .int a1, .int a2, .int a3] : List Value) 7
  rw [← hav] at hfr
  rw [hfr]
  clear hfr hav
  generalize (lg_sl ([.ref (ad 0), .int a1, .int a2, .int a3] : List Value) ++ List.replicate (7 - (lg_sl ([.ref (ad 0), .int a1, .int a2, .int a3] : List Value)).length) Slot.unset).toArray = ls at hl ⊢
  have hl : lv_has ls 7 [(0, .ref (ad 0)), (1, .int a1), (2, .int a2), (3, .int a3)] := hl
  have kf9 := hts _ (List.mem_cons_of_mem _ m_fl_X1_9)
  have ki1 := (fun w h => List.mem_cons_of_mem _ (i_X1 w h) : ∀ w ∈ u_ws RX1 TX1 10, w ∈ wsX1_make)
  have kf36 := hts _ (List.mem_cons_of_mem _ m_fl_X1_36)
  have kf15 := hts _ (List.mem_cons_of_mem _ m_fl_X1_15)
  have kf18 := hts _ (List.mem_cons_of_mem _ m_fl_X1_18)
  have kf21 := hts _ (List.mem_cons_of_mem _ m_fl_X1_21)
  refine (?_ : ∀ (H : Heap) (locs : List Loc), va_P (dC, dI) vwCl (zzC ad cy iC aC) H → va_D A (zzC ad cy iC aC) → va_S A s.heap H locs → W p l e ({ frames := 2, cells := 0, slots := 0, locals := 48 } : Room) s m args below meth c H locs 0 0 QQ (F0 m 0 ls [])) s.heap [] hP hD hS
  clear hP hD hS
  have B136 : ∀ (v1 : Int32) (v2 : Int32) (v3 : Int32) (v5 : Int32) (x_iC9 : Int32) (x_aC5 : Nat → Int32) (x_aC6 : Nat → Int32) (x_aC7 : Nat → Int32) (x_aC8 : Nat → Int32) (H : Heap) (locs : List Loc) (ls : Array Slot), f_C_make_136 N (iC 4) (iC 9) (aC 0) (aC 1) (aC 2) (aC 3) (aC 5) (aC 6) (aC 7) (aC 8) v1 v2 v3 v5 x_iC9 x_aC5 x_aC6 x_aC7 x_aC8 = some q → va_P (dC, dI) vwCl (zzC ad cy (us iC [(9, x_iC9)]) (us aC [(5, x_aC5), (6, x_aC6), (7, x_aC7), (8, x_aC8)])) H → va_D A (zzC ad cy (us iC [(9, x_iC9)]) (us aC [(5, x_aC5), (6, x_aC6), (7, x_aC7), (8, x_aC8)])) → va_S A s.heap H locs → lv_has ls 7 [(0, .ref (ad 0)), (1, .int v1), (2, .int v2), (3, .int v3), (5, .int v5)] → W p l e ({ frames := 2, cells := 0, slots := 0, locals := 48 } : Room) s m args below meth c H locs 0 0 QQ (F0 m 136 ls []) := by
    intro v1 v2 v3 v5 x_iC9 x_aC5 x_aC6 x_aC7 x_aC8 H locs ls h hP hD hS hl
    unfold f_C_make_136 at h
    refine lv_aload_n hx hb dX1_make_136 rfl (lv_at hl 0 rfl) ?_
    refine va_get (D := (dC, dI)) (ci := 1) (v := .ref (ad 1)) (C := RX1) (T := TX1) (N := 10) hx hb hts ki1 hown hK hP 0 rfl rfl 0 (by decide) kf9 (fun _ h9 => h9) rfl dX1_make_137 ?_
    refine lv_aload_n hx hb dX1_make_140 rfl (lv_at hl 0 rfl) ?_
    refine va_get (D := (dC, dI)) (ci := 1) (v := .int (iC 4)) (C := RX1) (T := TX1) (N := 10) hx hb hts ki1 hown hK hP 0 rfl rfl 4 (by decide) kf36 (fun _ h9 => h9) rfl dX1_make_141 ?_
    refine lv_iload_n hx hb dX1_make_144 rfl (lv_at hl 1 rfl) ?_
    obtain ⟨g_12, h⟩ := g_n h
    refine va_iast (f := (aC 0)) hx hb hK hP hD hS 1 0 rfl rfl g_12 dX1_make_145 (fun H locs hP hD hS => ?_)
    have hP : va_P (dC, dI) vwCl (zzC ad cy (us iC [(9, x_iC9)]) (us aC [(0, (upd (aC 0) (iC 4).toNatClampNeg v1)), (5, x_aC5), (6, x_aC6), (7, x_aC7), (8, x_aC8)])) H := Eq.mp (congrArg (fun w => va_P (dC, dI) vwCl w H) (stC_aC0 ad cy (us iC [(9, x_iC9)]) aC [(5, x_aC5), (6, x_aC6), (7, x_aC7), (8, x_aC8)] ((upd (aC 0) (iC 4).toNatClampNeg v1)))) hP
    have hD : va_D A (zzC ad cy (us iC [(9, x_iC9)]) (us aC [(0, (upd (aC 0) (iC 4).toNatClampNeg v1)), (5, x_aC5), (6, x_aC6), (7, x_aC7), (8, x_aC8)])) := Eq.mp (congrArg (fun w => va_D A w) (stC_aC0 ad cy (us iC [(9, x_iC9)]) aC [(5, x_aC5), (6, x_aC6), (7, x_aC7), (8, x_aC8)] ((upd (aC 0) (iC 4).toNatClampNeg v1)))) hD
    refine lv_aload_n hx hb dX1_make_146 rfl (lv_at hl 0 rfl) ?_
    refine va_get (D := (dC, dI)) (ci := 1) (v := .ref (ad 2)) (C := RX1) (T := TX1) (N := 10) hx hb hts ki1 hown hK hP 0 rfl rfl 1 (by decide) kf15 (fun _ h9 => h9) rfl dX1_make_147 ?_
    refine lv_aload_n hx hb dX1_make_150 rfl (lv_at hl 0 rfl) ?_
    refine va_get (D := (dC, dI)) (ci := 1) (v := .int (iC 4)) (C := RX1) (T := TX1) (N := 10) hx hb hts ki1 hown hK hP 0 rfl rfl 4 (by decide) kf36 (fun _ h9 => h9) rfl dX1_make_151 ?_
    refine lv_iload_n hx hb dX1_make_154 rfl (lv_at hl 2 rfl) ?_
    refine va_iast (f := (aC 1)) hx hb hK hP hD hS 2 0 rfl rfl g_12 dX1_make_155 (fun H locs hP hD hS => ?_)
    have hP : va_P (dC, dI) vwCl (zzC ad cy (us iC [(9, x_iC9)]) (us aC [(0, (upd (aC 0) (iC 4).toNatClampNeg v1)), (1, (upd (aC 1) (iC 4).toNatClampNeg v2)), (5, x_aC5), (6, x_aC6), (7, x_aC7), (8, x_aC8)])) H := Eq.mp (congrArg (fun w => va_P (dC, dI) vwCl w H) (stC_aC1 ad cy (us iC [(9, x_iC9)]) aC [(0, (upd (aC 0) (iC 4).toNatClampNeg v1)), (5, x_aC5), (6, x_aC6), (7, x_aC7), (8, x_aC8)] ((upd (aC 1) (iC 4).toNatClampNeg v2)))) hP
    have hD : va_D A (zzC ad cy (us iC [(9, x_iC9)]) (us aC [(0, (upd (aC 0) (iC 4).toNatClampNeg v1)), (1, (upd (aC 1) (iC 4).toNatClampNeg v2)), (5, x_aC5), (6, x_aC6), (7, x_aC7), (8, x_aC8)])) := Eq.mp (congrArg (fun w => va_D A w) (stC_aC1 ad cy (us iC [(9, x_iC9)]) aC [(0, (upd (aC 0) (iC 4).toNatClampNeg v1)), (5, x_aC5), (6, x_aC6), (7, x_aC7), (8, x_aC8)] ((upd (aC 1) (iC 4).toNatClampNeg v2)))) hD
    refine lv_aload_n hx hb dX1_make_156 rfl (lv_at hl 0 rfl) ?_
    refine va_get (D := (dC, dI)) (ci := 1) (v := .ref (ad 3)) (C := RX1) (T := TX1) (N := 10) hx hb hts ki1 hown hK hP 0 rfl rfl 2 (by decide) kf18 (fun _ h9 => h9) rfl dX1_make_157 ?_
    refine lv_aload_n hx hb dX1_make_160 rfl (lv_at hl 0 rfl) ?_
    refine va_get (D := (dC, dI)) (ci := 1) (v := .int (iC 4)) (C := RX1) (T := TX1) (N := 10) hx hb hts ki1 hown hK hP 0 rfl rfl 4 (by decide) kf36 (fun _ h9 => h9) rfl dX1_make_161 ?_
    refine lv_iload_n hx hb dX1_make_164 rfl (lv_at hl 3 rfl) ?_
    refine va_iast (f := (aC 2)) hx hb hK hP hD hS 3 0 rfl rfl g_12 dX1_make_165 (fun H locs hP hD hS => ?_)
    have hP : va_P (dC, dI) vwCl (zzC ad cy (us iC [(9, x_iC9)]) (us aC [(0, (upd (aC 0) (iC 4).toNatClampNeg v1)), (1, (upd (aC 1) (iC 4).toNatClampNeg v2)), (2, (upd (aC 2) (iC 4).toNatClampNeg v3)), (5, x_aC5), (6, x_aC6), (7, x_aC7), (8, x_aC8)])) H := Eq.mp (congrArg (fun w => va_P (dC, dI) vwCl w H) (stC_aC2 ad cy (us iC [(9, x_iC9)]) aC [(0, (upd (aC 0) (iC 4).toNatClampNeg v1)), (1, (upd (aC 1) (iC 4).toNatClampNeg v2)), (5, x_aC5), (6, x_aC6), (7, x_aC7), (8, x_aC8)] ((upd (aC 2) (iC 4).toNatClampNeg v3)))) hP
    have hD : va_D A (zzC ad cy (us iC [(9, x_iC9)]) (us aC [(0, (upd (aC 0) (iC 4).toNatClampNeg v1)), (1, (upd (aC 1) (iC 4).toNatClampNeg v2)), (2, (upd (aC 2) (iC 4).toNatClampNeg v3)), (5, x_aC5), (6, x_aC6), (7, x_aC7), (8, x_aC8)])) := Eq.mp (congrArg (fun w => va_D A w) (stC_aC2 ad cy (us iC [(9, x_iC9)]) aC [(0, (upd (aC 0) (iC 4).toNatClampNeg v1)), (1, (upd (aC 1) (iC 4).toNatClampNeg v2)), (5, x_aC5), (6, x_aC6), (7, x_aC7), (8, x_aC8)] ((upd (aC 2) (iC 4).toNatClampNeg v3)))) hD
    refine lv_aload_n hx hb dX1_make_166 rfl (lv_at hl 0 rfl) ?_
    refine va_get (D := (dC, dI)) (ci := 1) (v := .ref (ad 4)) (C := RX1) (T := TX1) (N := 10) hx hb hts ki1 hown hK hP 0 rfl rfl 3 (by decide) kf21 (fun _ h9 => h9) rfl dX1_make_167 ?_
    refine lv_aload_n hx hb dX1_make_170 rfl (lv_at hl 0 rfl) ?_
    refine va_get (D := (dC, dI)) (ci := 1) (v := .int (iC 4)) (C := RX1) (T := TX1) (N := 10) hx hb hts ki1 hown hK hP 0 rfl rfl 4 (by decide) kf36 (fun _ h9 => h9) rfl dX1_make_171 ?_
    refine lv_iload hx hb dX1_make_174 (lv_at hl 4 rfl) ?_
    refine va_iast (f := (aC 3)) hx hb hK hP hD hS 4 0 rfl rfl g_12 dX1_make_176 (fun H locs hP hD hS => ?_)
    have hP : va_P (dC, dI) vwCl (zzC ad cy (us iC [(9, x_iC9)]) (us aC [(0, (upd (aC 0) (iC 4).toNatClampNeg v1)), (1, (upd (aC 1) (iC 4).toNatClampNeg v2)), (2, (upd (aC 2) (iC 4).toNatClampNeg v3)), (3, (upd (aC 3) (iC 4).toNatClampNeg v5)), (5, x_aC5), (6, x_aC6), (7, x_aC7), (8, x_aC8)])) H := Eq.mp (congrArg (fun w => va_P (dC, dI) vwCl w H) (stC_aC3 ad cy (us iC [(9, x_iC9)]) aC [(0, (upd (aC 0) (iC 4).toNatClampNeg v1)), (1, (upd (aC 1) (iC 4).toNatClampNeg v2)), (2, (upd (aC 2) (iC 4).toNatClampNeg v3)), (5, x_aC5), (6, x_aC6), (7, x_aC7), (8, x_aC8)] ((upd (aC 3) (iC 4).toNatClampNeg v5)))) hP
    have hD : va_D A (zzC ad cy (us iC [(9, x_iC9)]) (us aC [(0, (upd (aC 0) (iC 4).toNatClampNeg v1)), (1, (upd (aC 1) (iC 4).toNatClampNeg v2)), (2, (upd (aC 2) (iC 4).toNatClampNeg v3)), (3, (upd (aC 3) (iC 4).toNatClampNeg v5)), (5, x_aC5), (6, x_aC6), (7, x_aC7), (8, x_aC8)])) := Eq.mp (congrArg (fun w => va_D A w) (stC_aC3 ad cy (us iC [(9, x_iC9)]) aC [(0, (upd (aC 0) (iC 4).toNatClampNeg v1)), (1, (upd (aC 1) (iC 4).toNatClampNeg v2)), (2, (upd (aC 2) (iC 4).toNatClampNeg v3)), (5, x_aC5), (6, x_aC6), (7, x_aC7), (8, x_aC8)] ((upd (aC 3) (iC 4).toNatClampNeg v5)))) hD
    refine lv_aload_n hx hb dX1_make_177 rfl (lv_at hl 0 rfl) ?_
    refine lv_dup hx hb dX1_make_178 rfl ?_
    refine va_get (D := (dC, dI)) (ci := 1) (v := .int (iC 4)) (C := RX1) (T := TX1) (N := 10) hx hb hts ki1 hown hK hP 0 rfl rfl 4 (by decide) kf36 (fun _ h9 => h9) rfl dX1_make_179 ?_
    refine lv_iconst (v := 1) hx hb dX1_make_182 (by decide) ?_
    refine lv_iadd hx hb dX1_make_183 ?_
    refine va_put (D := (dC, dI)) (ci := 1) (v := .int (((iC 4) + (1 : Int32)))) (ty := .int) (C := RX1) (T := TX1) (N := 10) hx hb hts ki1 tyX1 tyX1_ok nmX1 hown hK hP hD hS 0 rfl rfl 4 (by decide) kf36 (fun _ h9 => h9) rfl (by decide +kernel) rfl rfl (Nat.le_of_ble_eq_true rfl) dX1_make_184 (fun H locs hP hD hS => ?_)
    have hP : va_P (dC, dI) vwCl (zzC ad cy (us iC [(4, ((iC 4) + (1 : Int32))), (9, x_iC9)]) (us aC [(0, (upd (aC 0) (iC 4).toNatClampNeg v1)), (1, (upd (aC 1) (iC 4).toNatClampNeg v2)), (2, (upd (aC 2) (iC 4).toNatClampNeg v3)), (3, (upd (aC 3) (iC 4).toNatClampNeg v5)), (5, x_aC5), (6, x_aC6), (7, x_aC7), (8, x_aC8)])) H := Eq.mp (congrArg (fun w => va_P (dC, dI) vwCl w H) (stC_iC4 ad cy iC (us aC [(0, (upd (aC 0) (iC 4).toNatClampNeg v1)), (1, (upd (aC 1) (iC 4).toNatClampNeg v2)), (2, (upd (aC 2) (iC 4).toNatClampNeg v3)), (3, (upd (aC 3) (iC 4).toNatClampNeg v5)), (5, x_aC5), (6, x_aC6), (7, x_aC7), (8, x_aC8)]) [(9, x_iC9)] (((iC 4) + (1 : Int32))))) hP
    have hD : va_D A (zzC ad cy (us iC [(4, ((iC 4) + (1 : Int32))), (9, x_iC9)]) (us aC [(0, (upd (aC 0) (iC 4).toNatClampNeg v1)), (1, (upd (aC 1) (iC 4).toNatClampNeg v2)), (2, (upd (aC 2) (iC 4).toNatClampNeg v3)), (3, (upd (aC 3) (iC 4).toNatClampNeg v5)), (5, x_aC5), (6, x_aC6), (7, x_aC7), (8, x_aC8)])) := Eq.mp (congrArg (fun w => va_D A w) (stC_iC4 ad cy iC (us aC [(0, (upd (aC 0) (iC 4).toNatClampNeg v1)), (1, (upd (aC 1) (iC 4).toNatClampNeg v2)), (2, (upd (aC 2) (iC 4).toNatClampNeg v3)), (3, (upd (aC 3) (iC 4).toNatClampNeg v5)), (5, x_aC5), (6, x_aC6), (7, x_aC7), (8, x_aC8)]) [(9, x_iC9)] (((iC 4) + (1 : Int32))))) hD
    refine lv_aload_n hx hb dX1_make_187 rfl (lv_at hl 0 rfl) ?_
    refine va_get (D := (dC, dI)) (ci := 1) (v := .int (((iC 4) + (1 : Int32)))) (C := RX1) (T := TX1) (N := 10) hx hb hts ki1 hown hK hP 0 rfl rfl 4 (by decide) kf36 (fun _ h9 => h9) rfl dX1_make_188 ?_
    refine lv_iconst (v := 1) hx hb dX1_make_191 (by decide) ?_
    refine lv_isub hx hb dX1_make_192 ?_
    have h' := Option.some.inj h
    rw [← hQQ]
    exact W.iret (v := (((iC 4) + (1 : Int32)) - (1 : Int32))) hx hb hr (fun t ht hW => ⟨⟨(((iC 4) + (1 : Int32)) - (1 : Int32)), (), rfl, by rw [← h'], by rw [← hWQ, ← h', ht]; exact hP, va_K.moved hW.alike hK⟩, hS.F ht⟩) hS.2.2 dX1_make_193
  have B114 : ∀ (v1 : Int32) (v2 : Int32) (v3 : Int32) (v5 : Int32) (x_iC9 : Int32) (x_aC5 : Nat → Int32) (x_aC6 : Nat → Int32) (x_aC7 : Nat → Int32) (x_aC8 : Nat → Int32) (H : Heap) (locs : List Loc) (ls : Array Slot), f_C_make_114 N (iC 4) (iC 9) (aC 0) (aC 1) (aC 2) (aC 3) (aC 5) (aC 6) (aC 7) (aC 8) v1 v2 v3 v5 x_iC9 x_aC5 x_aC6 x_aC7 x_aC8 = some q → va_P (dC, dI) vwCl (zzC ad cy (us iC [(9, x_iC9)]) (us aC [(5, x_aC5), (6, x_aC6), (7, x_aC7), (8, x_aC8)])) H → va_D A (zzC ad cy (us iC [(9, x_iC9)]) (us aC [(5, x_aC5), (6, x_aC6), (7, x_aC7), (8, x_aC8)])) → va_S A s.heap H locs → lv_has ls 7 [(0, .ref (ad 0)), (1, .int v1), (2, .int v2), (3, .int v3), (5, .int v5)] → W p l e ({ frames := 2, cells := 0, slots := 0, locals := 48 } : Room) s m args below meth c H locs 0 0 QQ (F0 m 114 ls []) := by
    intro v1 v2 v3 v5 x_iC9 x_aC5 x_aC6 x_aC7 x_aC8 H locs ls h hP hD hS hl
    unfold f_C_make_114 at h
    refine lv_iload hx hb dX1_make_114 (lv_at hl 4 rfl) ?_
    refine lv_iconst (v := (-1)) hx hb dX1_make_116 (by decide) ?_
    refine lv_icmp_ne (tgt := 136) hx hb dX1_make_117 (by decide) (fun cz => ?_) (fun cz => ?_)
    · have h := g_f h cz
      exact B136 v1 v2 v3 v5 x_iC9 x_aC5 x_aC6 x_aC7 x_aC8 H locs ls h hP hD hS (lv_sub hl [0, 1, 2, 3, 4] rfl)
    · have h := g_t h cz
      refine lv_iload_n hx hb dX1_make_120 rfl (lv_at hl 1 rfl) ?_
      refine lv_if_eq (tgt := 134) hx hb dX1_make_121 (by decide) (fun cz => ?_) (fun cz => ?_)
      · have h := g_t h cz
        refine lv_iconst (v := (-1)) hx hb dX1_make_134 (by decide) ?_
        have h' := Option.some.inj h
        rw [← hQQ]
        exact W.iret (v := (-1 : Int32)) hx hb hr (fun t ht hW => ⟨⟨(-1 : Int32), (), rfl, by rw [← h'], by rw [← hWQ, ← h', ht]; exact hP, va_K.moved hW.alike hK⟩, hS.F ht⟩) hS.2.2 dX1_make_135
      · have h := g_f h cz
        refine lv_iload_n hx hb dX1_make_124 rfl (lv_at hl 1 rfl) ?_
        refine lv_iconst (v := 4) hx hb dX1_make_125 (by decide) ?_
        refine lv_icmp_eq (tgt := 134) hx hb dX1_make_126 (by decide) (fun cz => ?_) (fun cz => ?_)
        · have h := g_t h cz
          refine lv_iconst (v := (-1)) hx hb dX1_make_134 (by decide) ?_
          have h' := Option.some.inj h
          rw [← hQQ]
          exact W.iret (v := (-1 : Int32)) hx hb hr (fun t ht hW => ⟨⟨(-1 : Int32), (), rfl, by rw [← h'], by rw [← hWQ, ← h', ht]; exact hP, va_K.moved hW.alike hK⟩, hS.F ht⟩) hS.2.2 dX1_make_135
        · have h := g_f h cz
          refine lv_iload_n hx hb dX1_make_129 rfl (lv_at hl 1 rfl) ?_
          refine lv_iconst (v := 5) hx hb dX1_make_130 (by decide) ?_
          refine lv_icmp_ne (tgt := 136) hx hb dX1_make_131 (by decide) (fun cz => ?_) (fun cz => ?_)
          · have h := g_f h cz
            exact B136 v1 v2 v3 v5 x_iC9 x_aC5 x_aC6 x_aC7 x_aC8 H locs ls h hP hD hS (lv_sub hl [0, 1, 2, 3, 4] rfl)
          · have h := g_t h cz
            refine lv_iconst (v := (-1)) hx hb dX1_make_134 (by decide) ?_
            have h' := Option.some.inj h
            rw [← hQQ]
            exact W.iret (v := (-1 : Int32)) hx hb hr (fun t ht hW => ⟨⟨(-1 : Int32), (), rfl, by rw [← h'], by rw [← hWQ, ← h', ht]; exact hP, va_K.moved hW.alike hK⟩, hS.F ht⟩) hS.2.2 dX1_make_135
  have B84 : ∀ (v1 : Int32) (v2 : Int32) (v3 : Int32) (s0 : Int32) (H : Heap) (locs : List Loc) (ls : Array Slot), f_C_make_84 N (iC 4) (iC 9) (aC 0) (aC 1) (aC 2) (aC 3) (aC 5) (aC 6) (aC 7) (aC 8) v1 v2 v3 s0 = some q → va_P (dC, dI) vwCl (zzC ad cy iC aC) H → va_D A (zzC ad cy iC aC) → va_S A s.heap H locs → lv_has ls 7 [(0, .ref (ad 0)), (1, .int v1), (2, .int v2), (3, .int v3)] → W p l e ({ frames := 2, cells := 0, slots := 0, locals := 48 } : Room) s m args below meth c H locs 0 0 QQ (F0 m 84 ls [.int s0]) := by
    intro v1 v2 v3 s0 H locs ls h hP hD hS hl
    unfold f_C_make_84 at h
    refine lv_istore (lv' := [(6, .int s0), (0, .ref (ad 0)), (1, .int v1), (2, .int v2), (3, .int v3)]) hx hb dX1_make_84 hl (by decide) rfl (fun ls hl => ?_)
    refine lv_iload hx hb dX1_make_86 (lv_at hl 0 rfl) ?_
    refine lv_if_eq (tgt := 105) hx hb dX1_make_88 (by decide) (fun cz => ?_) (fun cz => ?_)
    · have h := g_t h cz
      refine lv_aload_n hx hb dX1_make_105 rfl (lv_at hl 1 rfl) ?_
      refine lv_iload_n hx hb dX1_make_106 rfl (lv_at hl 4 rfl) ?_
      refine lv_iload_n hx hb dX1_make_107 rfl (lv_at hl 3 rfl) ?_
      refine lv_iconst (v := 1) hx hb dX1_make_108 (by decide) ?_
      obtain ⟨q109, e109, h⟩ := g_b h
      refine callVis (cc := cX1_make) (w1 := zzC ad cy (us iC [(9, q109.2.1)]) (us aC [(5, q109.2.2.1), (6, q109.2.2.2.1), (7, q109.2.2.2.2.1), (8, q109.2.2.2.2.2)])) (As := [.int v3, .int v2, .int ((1 : Int32))]) (rest := []) ⟨hx, hb, hml, hown, hts⟩ (c_C_atomOfRole l dC dI cy ad H.size N v3 v2 ((1 : Int32)) iC aC q109 e109) (cwV 3 hts (goodV m_ml_X1_51 m_im_X1_atomOfRole m_se_X1_atomOfRole m_in_X1 m_cd_X1_atomOfRole) rfl rfl rfl (by decide +kernel) ⟨Nat.le_of_ble_eq_true rfl, Nat.le_of_ble_eq_true rfl⟩) hN hK hP hD hS hA rfl 0 rfl rfl rfl hl.1 rfl (Nat.le_of_ble_eq_true rfl) dX1_make_109 ⟨Nat.zero_le _, Nat.zero_le _⟩ (fun H locs hP hD hS => ?_)
      refine lv_istore (lv' := [(5, .int q109.1), (6, .int s0), (0, .ref (ad 0)), (1, .int v1), (2, .int v2), (3, .int v3)]) hx hb dX1_make_112 hl (by decide) rfl (fun ls hl => ?_)
      exact B114 v1 v2 v3 q109.1 q109.2.1 q109.2.2.1 q109.2.2.2.1 q109.2.2.2.2.1 q109.2.2.2.2.2 H locs ls h hP hD hS (lv_sub hl [2, 3, 4, 5, 0] rfl)
    · have h := g_f h cz
      refine lv_aload_n hx hb dX1_make_91 rfl (lv_at hl 1 rfl) ?_
      refine lv_iload_n hx hb dX1_make_92 rfl (lv_at hl 4 rfl) ?_
      refine lv_aload_n hx hb dX1_make_93 rfl (lv_at hl 1 rfl) ?_
      refine lv_iload_n hx hb dX1_make_94 rfl (lv_at hl 3 rfl) ?_
      obtain ⟨q95, e95, h⟩ := g_b h
      refine callVis (cc := cX1_make) (w1 := zzC ad cy iC aC) (As := [.int v2]) (rest := [.int v3, .ref (ad 0)]) ⟨hx, hb, hml, hown, hts⟩ (c_C_leftOf l dC dI cy ad H.size v2 iC aC q95 e95) (cwV 1 hts (goodV m_ml_X1_58 m_im_X1_leftOf m_se_X1_leftOf m_in_X1 m_cd_X1_leftOf) rfl rfl rfl (by decide +kernel) ⟨Nat.le_of_ble_eq_true rfl, Nat.le_of_ble_eq_true rfl⟩) hN hK hP hD hS hA rfl 0 rfl rfl rfl hl.1 rfl (Nat.le_of_ble_eq_true rfl) dX1_make_95 ⟨Nat.zero_le _, Nat.zero_le _⟩ (fun H locs hP hD hS => ?_)
      refine lv_iconst (v := 0) hx hb dX1_make_98 (by decide) ?_
      obtain ⟨q99, e99, h⟩ := g_b h
      refine callVis (cc := cX1_make) (w1 := zzC ad cy (us iC [(9, q99.2.1)]) (us aC [(5, q99.2.2.1), (6, q99.2.2.2.1), (7, q99.2.2.2.2.1), (8, q99.2.2.2.2.2)])) (As := [.int v3, .int q95, .int ((0 : Int32))]) (rest := []) ⟨hx, hb, hml, hown, hts⟩ (c_C_atomOfRole l dC dI cy ad H.size N v3 q95 ((0 : Int32)) iC aC q99 e99) (cwV 3 hts (goodV m_ml_X1_51 m_im_X1_atomOfRole m_se_X1_atomOfRole m_in_X1 m_cd_X1_atomOfRole) rfl rfl rfl (by decide +kernel) ⟨Nat.le_of_ble_eq_true rfl, Nat.le_of_ble_eq_true rfl⟩) hN hK hP hD hS hA rfl 0 rfl rfl rfl hl.1 rfl (Nat.le_of_ble_eq_true rfl) dX1_make_99 ⟨Nat.zero_le _, Nat.zero_le _⟩ (fun H locs hP hD hS => ?_)
      refine lv_goto (tgt := 112) hx hb dX1_make_102 (by decide) ?_
      refine lv_istore (lv' := [(5, .int q99.1), (6, .int s0), (0, .ref (ad 0)), (1, .int v1), (2, .int v2), (3, .int v3)]) hx hb dX1_make_112 hl (by decide) rfl (fun ls hl => ?_)
      exact B114 v1 v2 v3 q99.1 q99.2.1 q99.2.2.1 q99.2.2.2.1 q99.2.2.2.2.1 q99.2.2.2.2.2 H locs ls h hP hD hS (lv_sub hl [2, 3, 4, 5, 0] rfl)
  intro H locs hP hD hS
  unfold f_C_make at h
  refine lv_aload_n hx hb dX1_make_0 rfl (lv_at hl 0 rfl) ?_
  refine lv_iload_n hx hb dX1_make_1 rfl (lv_at hl 1 rfl) ?_
  refine lv_iload_n hx hb dX1_make_2 rfl (lv_at hl 2 rfl) ?_
  refine lv_iload_n hx hb dX1_make_3 rfl (lv_at hl 3 rfl) ?_
  obtain ⟨q4, e4, h⟩ := g_b h
  refine callVis (cc := cX1_make) (w1 := zzC ad cy iC aC) (As := [.int a1, .int a2, .int a3]) (rest := []) ⟨hx, hb, hml, hown, hts⟩ (c_C_find l dC dI cy ad H.size N a1 a2 a3 iC aC q4 e4) (cwV 3 hts (goodV m_ml_X1_43 m_im_X1_find m_se_X1_find m_in_X1 m_cd_X1_find) rfl rfl rfl (by decide +kernel) ⟨Nat.le_of_ble_eq_true rfl, Nat.le_of_ble_eq_true rfl⟩) hN hK hP hD hS hA rfl 0 rfl rfl rfl hl.1 rfl (Nat.le_of_ble_eq_true rfl) dX1_make_4 ⟨Nat.zero_le _, Nat.zero_le _⟩ (fun H locs hP hD hS => ?_)
  refine lv_istore (lv' := [(4, .int q4), (0, .ref (ad 0)), (1, .int a1), (2, .int a2), (3, .int a3)]) hx hb dX1_make_7 hl (by decide) rfl (fun ls hl => ?_)
  refine lv_iload hx hb dX1_make_9 (lv_at hl 0 rfl) ?_
  refine lv_iconst (v := (-1)) hx hb dX1_make_11 (by decide) ?_
  refine lv_icmp_ne (tgt := 25) hx hb dX1_make_12 (by decide) (fun cz => ?_) (fun cz => ?_)
  · have h := g_f h cz
    refine lv_iload hx hb dX1_make_25 (lv_at hl 0 rfl) ?_
    have h' := Option.some.inj h
    rw [← hQQ]
    exact W.iret (v := q4) hx hb hr (fun t ht hW => ⟨⟨q4, (), rfl, by rw [← h'], by rw [← hWQ, ← h', ht]; exact hP, va_K.moved hW.alike hK⟩, hS.F ht⟩) hS.2.2 dX1_make_27
  · have h := g_t h cz
    refine lv_aload_n hx hb dX1_make_15 rfl (lv_at hl 1 rfl) ?_
    refine va_get (D := (dC, dI)) (ci := 1) (v := .int (iC 4)) (C := RX1) (T := TX1) (N := 10) hx hb hts ki1 hown hK hP 0 rfl rfl 4 (by decide) kf36 (fun _ h9 => h9) rfl dX1_make_16 ?_
    refine lv_sipush (v := 200) hx hb dX1_make_19 (by decide) ?_
    refine lv_icmp_lt (tgt := 28) hx hb dX1_make_22 (by decide) (fun cz => ?_) (fun cz => ?_)
    · have h := g_t h cz
      refine lv_iconst (v := (-1)) hx hb dX1_make_28 (by decide) ?_
      refine lv_istore (lv' := [(5, .int ((-1 : Int32))), (4, .int q4), (0, .ref (ad 0)), (1, .int a1), (2, .int a2), (3, .int a3)]) hx hb dX1_make_29 hl (by decide) rfl (fun ls hl => ?_)
      refine lv_iload_n hx hb dX1_make_31 rfl (lv_at hl 3 rfl) ?_
      refine lv_if_ne (tgt := 48) hx hb dX1_make_32 (by decide) (fun cz => ?_) (fun cz => ?_)
      · have h := g_f h cz
        refine lv_iload_n hx hb dX1_make_48 rfl (lv_at hl 3 rfl) ?_
        refine lv_iconst (v := 4) hx hb dX1_make_49 (by decide) ?_
        refine lv_icmp_ne (tgt := 65) hx hb dX1_make_50 (by decide) (fun cz => ?_) (fun cz => ?_)
        · have h := g_f h cz
          refine lv_iload_n hx hb dX1_make_65 rfl (lv_at hl 3 rfl) ?_
          refine lv_iconst (v := 5) hx hb dX1_make_66 (by decide) ?_
          refine lv_icmp_ne (tgt := 114) hx hb dX1_make_67 (by decide) (fun cz => ?_) (fun cz => ?_)
          · have h := g_f h cz
            exact B114 a1 a2 a3 ((-1 : Int32)) (iC 9) (aC 5) (aC 6) (aC 7) (aC 8) H locs ls h hP hD hS (lv_sub hl [2, 3, 4, 5, 0] rfl)
          · have h := g_t h cz
            refine lv_aload_n hx hb dX1_make_70 rfl (lv_at hl 2 rfl) ?_
            refine lv_iload_n hx hb dX1_make_71 rfl (lv_at hl 4 rfl) ?_
            obtain ⟨q72, e72, h⟩ := g_b h
            refine callVis (cc := cX1_make) (w1 := zzC ad cy iC aC) (As := [.int a2]) (rest := []) ⟨hx, hb, hml, hown, hts⟩ (c_C_sortOf l dC dI cy ad H.size a2 iC aC q72 e72) (cwV 1 hts (goodV m_ml_X1_54 m_im_X1_sortOf m_se_X1_sortOf m_in_X1 m_cd_X1_sortOf) rfl rfl rfl (by decide +kernel) ⟨Nat.le_of_ble_eq_true rfl, Nat.le_of_ble_eq_true rfl⟩) hN hK hP hD hS hA rfl 0 rfl rfl rfl hl.1 rfl (Nat.le_of_ble_eq_true rfl) dX1_make_72 ⟨Nat.zero_le _, Nat.zero_le _⟩ (fun H locs hP hD hS => ?_)
            refine lv_iconst (v := 3) hx hb dX1_make_75 (by decide) ?_
            refine lv_icmp_ne (tgt := 83) hx hb dX1_make_76 (by decide) (fun cz => ?_) (fun cz => ?_)
            · have h := g_f h cz
              refine lv_iconst (v := 0) hx hb dX1_make_83 (by decide) ?_
              exact B84 a1 a2 a3 ((0 : Int32)) H locs ls h hP hD hS (lv_sub hl [2, 3, 4, 5] rfl)
            · have h := g_t h cz
              refine lv_iconst (v := 1) hx hb dX1_make_79 (by decide) ?_
              refine lv_goto (tgt := 84) hx hb dX1_make_80 (by decide) ?_
              exact B84 a1 a2 a3 ((1 : Int32)) H locs ls h hP hD hS (lv_sub hl [2, 3, 4, 5] rfl)
        · have h := g_t h cz
          refine lv_aload_n hx hb dX1_make_53 rfl (lv_at hl 2 rfl) ?_
          refine lv_iload_n hx hb dX1_make_54 rfl (lv_at hl 5 rfl) ?_
          refine lv_iload_n hx hb dX1_make_55 rfl (lv_at hl 4 rfl) ?_
          refine lv_iconst (v := 0) hx hb dX1_make_56 (by decide) ?_
          obtain ⟨q57, e57, h⟩ := g_b h
          refine callVis (cc := cX1_make) (w1 := zzC ad cy (us iC [(9, q57.2.1)]) (us aC [(5, q57.2.2.1), (6, q57.2.2.2.1), (7, q57.2.2.2.2.1), (8, q57.2.2.2.2.2)])) (As := [.int a3, .int a2, .int ((0 : Int32))]) (rest := []) ⟨hx, hb, hml, hown, hts⟩ (c_C_atomOfRole l dC dI cy ad H.size N a3 a2 ((0 : Int32)) iC aC q57 e57) (cwV 3 hts (goodV m_ml_X1_51 m_im_X1_atomOfRole m_se_X1_atomOfRole m_in_X1 m_cd_X1_atomOfRole) rfl rfl rfl (by decide +kernel) ⟨Nat.le_of_ble_eq_true rfl, Nat.le_of_ble_eq_true rfl⟩) hN hK hP hD hS hA rfl 0 rfl rfl rfl hl.1 rfl (Nat.le_of_ble_eq_true rfl) dX1_make_57 ⟨Nat.zero_le _, Nat.zero_le _⟩ (fun H locs hP hD hS => ?_)
          refine lv_istore (lv' := [(5, .int q57.1), (4, .int q4), (0, .ref (ad 0)), (1, .int a1), (2, .int a2), (3, .int a3)]) hx hb dX1_make_60 hl (by decide) rfl (fun ls hl => ?_)
          refine lv_goto (tgt := 114) hx hb dX1_make_62 (by decide) ?_
          exact B114 a1 a2 a3 q57.1 q57.2.1 q57.2.2.1 q57.2.2.2.1 q57.2.2.2.2.1 q57.2.2.2.2.2 H locs ls h hP hD hS (lv_sub hl [2, 3, 4, 5, 0] rfl)
      · have h := g_t h cz
        refine lv_aload_n hx hb dX1_make_35 rfl (lv_at hl 2 rfl) ?_
        refine lv_iconst (v := (-1)) hx hb dX1_make_36 (by decide) ?_
        refine lv_iload_n hx hb dX1_make_37 rfl (lv_at hl 4 rfl) ?_
        refine lv_iconst (v := (-1)) hx hb dX1_make_38 (by decide) ?_
        refine lv_iconst (v := 0) hx hb dX1_make_39 (by decide) ?_
        obtain ⟨q40, e40, h⟩ := g_b h
        refine callVis (cc := cX1_make) (w1 := zzC ad cy (us iC [(9, q40.2.1)]) (us aC [(5, q40.2.2.1), (6, q40.2.2.2.1), (7, q40.2.2.2.2.1), (8, q40.2.2.2.2.2)])) (As := [.int ((-1 : Int32)), .int a2, .int ((-1 : Int32)), .int ((0 : Int32))]) (rest := []) ⟨hx, hb, hml, hown, hts⟩ (c_C_atomFor l dC dI cy ad H.size N ((-1 : Int32)) a2 ((-1 : Int32)) ((0 : Int32)) iC aC q40 e40) (cwV 4 hts (goodV m_ml_X1_47 m_im_X1_atomFor m_se_X1_atomFor m_in_X1 m_cd_X1_atomFor) rfl rfl rfl (by decide +kernel) ⟨Nat.le_of_ble_eq_true rfl, Nat.le_of_ble_eq_true rfl⟩) hN hK hP hD hS hA rfl 0 rfl rfl rfl hl.1 rfl (Nat.le_of_ble_eq_true rfl) dX1_make_40 ⟨Nat.zero_le _, Nat.zero_le _⟩ (fun H locs hP hD hS => ?_)
        refine lv_istore (lv' := [(5, .int q40.1), (4, .int q4), (0, .ref (ad 0)), (1, .int a1), (2, .int a2), (3, .int a3)]) hx hb dX1_make_43 hl (by decide) rfl (fun ls hl => ?_)
        refine lv_goto (tgt := 114) hx hb dX1_make_45 (by decide) ?_
        exact B114 a1 a2 a3 q40.1 q40.2.1 q40.2.2.1 q40.2.2.2.1 q40.2.2.2.2.1 q40.2.2.2.2.2 H locs ls h hP hD hS (lv_sub hl [2, 3, 4, 5, 0] rfl)
    · have h := g_f h cz
      refine lv_iload hx hb dX1_make_25 (lv_at hl 0 rfl) ?_
      have h' := Option.some.inj h
      rw [← hQQ]
      exact W.iret (v := q4) hx hb hr (fun t ht hW => ⟨⟨q4, (), rfl, by rw [← h'], by rw [← hWQ, ← h', ht]; exact hP, va_K.moved hW.alike hK⟩, hS.F ht⟩) hS.2.2 dX1_make_27
set_option maxHeartbeats 8000000 in
set_option maxRecDepth 100000 in
theorem c_R_countConcept (l : Launch) (dC : Nat → ClassId) (dI : Nat → Nat → Nat) (cy : Nat → ClassId) (ad : Nat → Nat) (sz : Nat) (iR : Nat → Int32) (iT : Nat → Int32) (wT : Int64) (tx : Nat → Int32) (iB : Nat → Int32) (lB : Nat → Nat → Int64) (aB : Nat → Nat → Int32) (iC : Nat → Int32) (aC : Nat → Nat → Int32) (q : Int32 × Int32 × Int32 × Int32) (h : f_R_countConcept (iR 3) (iR 4) (iT 3) (iB 1) = some q) : Met l yX4_countConcept wsX4_countConcept ({ frames := 2, cells := 0, slots := 0, locals := 43 } : Room) (cP (dC, dI) cy [.ref (ad 0)] (zzR ad cy (ad 3) (ad 10) iR iT wT tx iB lB aB iC aC) sz) (cQi (dC, dI) cy q.1 (zzR ad cy (ad 3) (ad 10) (us iR [(3, q.2.1), (4, q.2.2.1)]) iT wT tx (us iB [(1, q.2.2.2)]) lB aB iC aC) (va_A (zzR ad cy (ad 3) (ad 10) iR iT wT tx iB lB aB iC aC) sz)) 0 0 (va_A (zzR ad cy (ad 3) (ad 10) iR iT wT tx iB lB aB iC aC) sz) := by
  refine Met.ofW (cc := cX4_countConcept) (maxL := 1) (ret := (some .boolean)) (by decide) rfl ?_
  intro p e s m args below meth c s₁ B hml hv
  obtain ⟨hav, hsz, hP, hK, hD0, hN⟩ := hv
  have hx := B.exec
  have hb := B.bytes
  have hr := B.returns
  have hts := atoms_spec (ws := wsX4_countConcept) B.pre
  have hown : s.vm.findClass RX4 = some m.cls := findClass_of_methodNamed B.named
  have hlocks := B.notSynchronized
  subst hsz
  have hD := hD0.self (sz := s.heap.size)
  generalize hAe : va_A (zzR ad cy (ad 3) (ad 10) iR iT wT tx iB lB aB iC aC) s.heap.size = A at hD ⊢
  have hA : ∀ q : Nat, s.heap.size ≤ q → A q := fun q h => by rw [← hAe]; exact Or.inr h
  have hS : va_S A s.heap s.heap [] := va_S.rf
  generalize hWQ : (zzR ad cy (ad 3) (ad 10) (us iR [(3, q.2.1), (4, q.2.2.1)]) iT wT tx (us iB [(1, q.2.2.2)]) lB aB iC aC) = WQ
  generalize hQQ : MQ below (cQi (dC, dI) cy q.1 WQ A) args s 0 0 A = QQ
  have hl := lv_entry ([.ref (ad 0)] : List Value) (n := 1) (Nat.le_of_ble_eq_true rfl)
  have hfr := lg_entry_eq m ([.ref (ad 0)] : List Value) 1
  rw [← hav] at hfr
  rw [hfr]
  clear hfr hav
  generalize (lg_sl ([.ref (ad 0)] : List Value) ++ List.replicate (1 - (lg_sl ([.ref (ad 0)] : List Value)).length) Slot.unset).toArray = ls at hl ⊢
  have hl : lv_has ls 1 [(0, .ref (ad 0))] := hl
  have kf24 := hts _ (List.mem_cons_of_mem _ m_fl_X4_24)
  have ki4 := (fun w h => List.mem_cons_of_mem _ (i_X4 w h) : ∀ w ∈ u_ws RX4 TX4 5, w ∈ wsX4_countConcept)
  have kf194 := hts _ (List.mem_cons_of_mem _ m_fl_X4_194)
  have ki0 := (fun w h => List.mem_cons_of_mem _ (i_X0 w h) : ∀ w ∈ u_ws RX0 TX0 15, w ∈ wsX4_countConcept)
  refine (?_ : ∀ (H : Heap) (locs : List Loc), va_P (dC, dI) vwCl (zzR ad cy (ad 3) (ad 10) iR iT wT tx iB lB aB iC aC) H → va_D A (zzR ad cy (ad 3) (ad 10) iR iT wT tx iB lB aB iC aC) → va_S A s.heap H locs → W p l e ({ frames := 2, cells := 0, slots := 0, locals := 43 } : Room) s m args below meth c H locs 0 0 QQ (F0 m 0 ls [])) s.heap [] hP hD hS
  clear hP hD hS
  intro H locs hP hD hS
  unfold f_R_countConcept at h
  refine lv_aload_n hx hb dX4_countConcept_0 rfl (lv_at hl 0 rfl) ?_
  refine va_get (D := (dC, dI)) (ci := 4) (v := .ref (ad 3)) (C := RX4) (T := TX4) (N := 5) hx hb hts ki4 hown hK hP 0 rfl rfl 1 (by decide) kf24 (fun _ h9 => h9) rfl dX4_countConcept_1 ?_
  refine va_get (D := (dC, dI)) (ci := 0) (v := .int (iB 1)) (C := RX0) (T := TX0) (N := 15) hx hb hts ki0 hown hK hP 3 rfl rfl 1 (by decide) kf194 (fun _ h9 => h9) rfl dX4_countConcept_4 ?_
  refine lv_sipush (v := 200) hx hb dX4_countConcept_7 (by decide) ?_
  refine lv_icmp_lt (tgt := 21) hx hb dX4_countConcept_10 (by decide) (fun cz => ?_) (fun cz => ?_)
  · have h := g_t h cz
    refine lv_aload_n hx hb dX4_countConcept_21 rfl (lv_at hl 0 rfl) ?_
    refine va_get (D := (dC, dI)) (ci := 4) (v := .ref (ad 3)) (C := RX4) (T := TX4) (N := 5) hx hb hts ki4 hown hK hP 0 rfl rfl 1 (by decide) kf24 (fun _ h9 => h9) rfl dX4_countConcept_22 ?_
    refine lv_dup hx hb dX4_countConcept_25 rfl ?_
    refine va_get (D := (dC, dI)) (ci := 0) (v := .int (iB 1)) (C := RX0) (T := TX0) (N := 15) hx hb hts ki0 hown hK hP 3 rfl rfl 1 (by decide) kf194 (fun _ h9 => h9) rfl dX4_countConcept_26 ?_
    refine lv_iconst (v := 1) hx hb dX4_countConcept_29 (by decide) ?_
    refine lv_iadd hx hb dX4_countConcept_30 ?_
    refine va_put (D := (dC, dI)) (ci := 0) (v := .int (((iB 1) + (1 : Int32)))) (ty := .int) (C := RX0) (T := TX0) (N := 15) hx hb hts ki0 tyX0 tyX0_ok nmX0 hown hK hP hD hS 3 rfl rfl 1 (by decide) kf194 (fun _ h9 => h9) rfl (by decide +kernel) rfl rfl (Nat.le_of_ble_eq_true rfl) dX4_countConcept_31 (fun H locs hP hD hS => ?_)
    have hP : va_P (dC, dI) vwCl (zzR ad cy (ad 3) (ad 10) iR iT wT tx (us iB [(1, ((iB 1) + (1 : Int32)))]) lB aB iC aC) H := Eq.mp (congrArg (fun w => va_P (dC, dI) vwCl w H) (sfR_iB1 ad cy (ad 3) (ad 10) iR iT wT tx iB lB aB iC aC (((iB 1) + (1 : Int32))))) hP
    have hD : va_D A (zzR ad cy (ad 3) (ad 10) iR iT wT tx (us iB [(1, ((iB 1) + (1 : Int32)))]) lB aB iC aC) := Eq.mp (congrArg (fun w => va_D A w) (sfR_iB1 ad cy (ad 3) (ad 10) iR iT wT tx iB lB aB iC aC (((iB 1) + (1 : Int32))))) hD
    refine lv_iconst (v := 1) hx hb dX4_countConcept_34 (by decide) ?_
    have h' := Option.some.inj h
    rw [← hQQ]
    exact W.zret (v := (1 : Int32)) hx hb hr rfl (fun t ht hW => ⟨⟨(1 : Int32), (), rfl, by rw [← h'], by rw [← hWQ, ← h', ht]; exact hP, va_K.moved hW.alike hK⟩, hS.F ht⟩) hS.2.2 dX4_countConcept_35
  · have h := g_f h cz
    refine lv_aload_n hx hb dX4_countConcept_13 rfl (lv_at hl 0 rfl) ?_
    refine lv_iconst (v := 3) hx hb dX4_countConcept_14 (by decide) ?_
    obtain ⟨q15, e15, h⟩ := g_b h
    refine callVis (cc := cX4_countConcept) (w1 := zzR ad cy (ad 3) (ad 10) (us iR [(3, q15.2.1), (4, q15.2.2)]) iT wT tx iB lB aB iC aC) (As := [.int ((3 : Int32))]) (rest := []) ⟨hx, hb, hml, hown, hts⟩ (c_R_failHere l dC dI cy ad H.size ((3 : Int32)) iR iT wT tx iB lB aB iC aC q15 e15) (cwV 1 hts (goodV m_ml_X4_77 m_im_X4_failHere m_se_X4_failHere m_in_X4 m_cd_X4_failHere) rfl rfl rfl (by decide +kernel) ⟨Nat.le_of_ble_eq_true rfl, Nat.le_of_ble_eq_true rfl⟩) hN hK hP hD hS hA rfl 0 rfl rfl rfl hl.1 rfl (Nat.le_of_ble_eq_true rfl) dX4_countConcept_15 ⟨Nat.zero_le _, Nat.zero_le _⟩ (fun H locs hP hD hS => ?_)
    refine lv_pop hx hb dX4_countConcept_18 rfl ?_
    refine lv_iconst (v := 0) hx hb dX4_countConcept_19 (by decide) ?_
    have h' := Option.some.inj h
    rw [← hQQ]
    exact W.zret (v := (0 : Int32)) hx hb hr rfl (fun t ht hW => ⟨⟨(0 : Int32), (), rfl, by rw [← h'], by rw [← hWQ, ← h', ht]; exact hP, va_K.moved hW.alike hK⟩, hS.F ht⟩) hS.2.2 dX4_countConcept_20
set_option maxHeartbeats 8000000 in
set_option maxRecDepth 100000 in
theorem c_B_addName (l : Launch) (dC : Nat → ClassId) (dI : Nat → Nat → Nat) (cy : Nat → ClassId) (ad : Nat → Nat) (sz : Nat) (a1 : Int64) (iB : Nat → Int32) (lB : Nat → Nat → Int64) (aB : Nat → Nat → Int32) (iC : Nat → Int32) (aC : Nat → Nat → Int32) (q : Int32 × Int32 × (Nat → Int64)) (h : f_B_addName a1 (iB 3) (lB 2) = some q) : Met l yX0_addName wsX0_addName ({ frames := 0, cells := 0, slots := 0, locals := 0 } : Room) (cP (dC, dI) cy [.ref (ad 0), .long a1] (zzB ad cy iB lB aB iC aC) sz) (cQi (dC, dI) cy q.1 (zzB ad cy (us iB [(3, q.2.1)]) (us lB [(2, q.2.2)]) aB iC aC) (va_A (zzB ad cy iB lB aB iC aC) sz)) 0 0 (va_A (zzB ad cy iB lB aB iC aC) sz) := by
  refine Met.ofW (cc := cX0_addName) (maxL := 3) (ret := (some .int)) (by decide) rfl ?_
  intro p e s m args below meth c s₁ B hml hv
  obtain ⟨hav, hsz, hP, hK, hD0, hN⟩ := hv
  have hx := B.exec
  have hb := B.bytes
  have hr := B.returns
  have hts := atoms_spec (ws := wsX0_addName) B.pre
  have hown : s.vm.findClass RX0 = some m.cls := findClass_of_methodNamed B.named
  have hlocks := B.notSynchronized
  subst hsz
  have hD := hD0.self (sz := s.heap.size)
  generalize hAe : va_A (zzB ad cy iB lB aB iC aC) s.heap.size = A at hD ⊢
  have hA : ∀ q : Nat, s.heap.size ≤ q → A q := fun q h => by rw [← hAe]; exact Or.inr h
  have hS : va_S A s.heap s.heap [] := va_S.rf
  generalize hWQ : (zzB ad cy (us iB [(3, q.2.1)]) (us lB [(2, q.2.2)]) aB iC aC) = WQ
  generalize hQQ : MQ below (cQi (dC, dI) cy q.1 WQ A) args s 0 0 A = QQ
  have hl := lv_entry ([.ref (ad 0), .long a1] : List Value) (n := 3) (Nat.le_of_ble_eq_true rfl)
  have hfr := lg_entry_eq m ([.ref (ad 0), .long a1] : List Value) 3
  rw [← hav] at hfr
  rw [hfr]
  clear hfr hav
  generalize (lg_sl ([.ref (ad 0), .long a1] : List Value) ++ List.replicate (3 - (lg_sl ([.ref (ad 0), .long a1] : List Value)).length) Slot.unset).toArray = ls at hl ⊢
  have hl : lv_has ls 3 [(0, .ref (ad 0)), (1, .long a1)] := hl
  have kf45 := hts _ (List.mem_cons_of_mem _ m_fl_X0_45)
  have ki0 := (fun w h => List.mem_cons_of_mem _ (i_X0 w h) : ∀ w ∈ u_ws RX0 TX0 15, w ∈ wsX0_addName)
  have kf18 := hts _ (List.mem_cons_of_mem _ m_fl_X0_18)
  refine (?_ : ∀ (H : Heap) (locs : List Loc), va_P (dC, dI) vwCl (zzB ad cy iB lB aB iC aC) H → va_D A (zzB ad cy iB lB aB iC aC) → va_S A s.heap H locs → W p l e ({ frames := 0, cells := 0, slots := 0, locals := 0 } : Room) s m args below meth c H locs 0 0 QQ (F0 m 0 ls [])) s.heap [] hP hD hS
  clear hP hD hS
  intro H locs hP hD hS
  unfold f_B_addName at h
  refine lv_aload_n hx hb dX0_addName_0 rfl (lv_at hl 0 rfl) ?_
  refine va_get (D := (dC, dI)) (ci := 0) (v := .int (iB 3)) (C := RX0) (T := TX0) (N := 15) hx hb hts ki0 hown hK hP 0 rfl rfl 3 (by decide) kf45 (fun _ h9 => h9) rfl dX0_addName_1 ?_
  refine lv_iconst (v := 5) hx hb dX0_addName_4 (by decide) ?_
  refine lv_icmp_lt (tgt := 10) hx hb dX0_addName_5 (by decide) (fun cz => ?_) (fun cz => ?_)
  · have h := g_t h cz
    refine lv_aload_n hx hb dX0_addName_10 rfl (lv_at hl 0 rfl) ?_
    refine va_get (D := (dC, dI)) (ci := 0) (v := .ref (ad 1)) (C := RX0) (T := TX0) (N := 15) hx hb hts ki0 hown hK hP 0 rfl rfl 2 (by decide) kf18 (fun _ h9 => h9) rfl dX0_addName_11 ?_
    refine lv_aload_n hx hb dX0_addName_14 rfl (lv_at hl 0 rfl) ?_
    refine va_get (D := (dC, dI)) (ci := 0) (v := .int (iB 3)) (C := RX0) (T := TX0) (N := 15) hx hb hts ki0 hown hK hP 0 rfl rfl 3 (by decide) kf45 (fun _ h9 => h9) rfl dX0_addName_15 ?_
    refine lv_lload_n hx hb dX0_addName_18 rfl (lv_at hl 1 rfl) ?_
    obtain ⟨g_13, h⟩ := g_n h
    refine va_last (f := (lB 2)) hx hb hK hP hD hS 1 2 rfl rfl g_13 dX0_addName_19 (fun H locs hP hD hS => ?_)
    have hP : va_P (dC, dI) vwCl (zzB ad cy iB (us lB [(2, (vp_updL (lB 2) (iB 3).toNatClampNeg a1))]) aB iC aC) H := Eq.mp (congrArg (fun w => va_P (dC, dI) vwCl w H) (sfB_lB2 ad cy iB lB aB iC aC ((vp_updL (lB 2) (iB 3).toNatClampNeg a1)))) hP
    have hD : va_D A (zzB ad cy iB (us lB [(2, (vp_updL (lB 2) (iB 3).toNatClampNeg a1))]) aB iC aC) := Eq.mp (congrArg (fun w => va_D A w) (sfB_lB2 ad cy iB lB aB iC aC ((vp_updL (lB 2) (iB 3).toNatClampNeg a1)))) hD
    refine lv_aload_n hx hb dX0_addName_20 rfl (lv_at hl 0 rfl) ?_
    refine lv_dup hx hb dX0_addName_21 rfl ?_
    refine va_get (D := (dC, dI)) (ci := 0) (v := .int (iB 3)) (C := RX0) (T := TX0) (N := 15) hx hb hts ki0 hown hK hP 0 rfl rfl 3 (by decide) kf45 (fun _ h9 => h9) rfl dX0_addName_22 ?_
    refine lv_iconst (v := 1) hx hb dX0_addName_25 (by decide) ?_
    refine lv_iadd hx hb dX0_addName_26 ?_
    refine va_put (D := (dC, dI)) (ci := 0) (v := .int (((iB 3) + (1 : Int32)))) (ty := .int) (C := RX0) (T := TX0) (N := 15) hx hb hts ki0 tyX0 tyX0_ok nmX0 hown hK hP hD hS 0 rfl rfl 3 (by decide) kf45 (fun _ h9 => h9) rfl (by decide +kernel) rfl rfl (Nat.le_of_ble_eq_true rfl) dX0_addName_27 (fun H locs hP hD hS => ?_)
    have hP : va_P (dC, dI) vwCl (zzB ad cy (us iB [(3, ((iB 3) + (1 : Int32)))]) (us lB [(2, (vp_updL (lB 2) (iB 3).toNatClampNeg a1))]) aB iC aC) H := Eq.mp (congrArg (fun w => va_P (dC, dI) vwCl w H) (sfB_iB3 ad cy iB (us lB [(2, (vp_updL (lB 2) (iB 3).toNatClampNeg a1))]) aB iC aC (((iB 3) + (1 : Int32))))) hP
    have hD : va_D A (zzB ad cy (us iB [(3, ((iB 3) + (1 : Int32)))]) (us lB [(2, (vp_updL (lB 2) (iB 3).toNatClampNeg a1))]) aB iC aC) := Eq.mp (congrArg (fun w => va_D A w) (sfB_iB3 ad cy iB (us lB [(2, (vp_updL (lB 2) (iB 3).toNatClampNeg a1))]) aB iC aC (((iB 3) + (1 : Int32))))) hD
    refine lv_aload_n hx hb dX0_addName_30 rfl (lv_at hl 0 rfl) ?_
    refine va_get (D := (dC, dI)) (ci := 0) (v := .int (((iB 3) + (1 : Int32)))) (C := RX0) (T := TX0) (N := 15) hx hb hts ki0 hown hK hP 0 rfl rfl 3 (by decide) kf45 (fun _ h9 => h9) rfl dX0_addName_31 ?_
    refine lv_iconst (v := 1) hx hb dX0_addName_34 (by decide) ?_
    refine lv_isub hx hb dX0_addName_35 ?_
    have h' := Option.some.inj h
    rw [← hQQ]
    exact W.iret (v := (((iB 3) + (1 : Int32)) - (1 : Int32))) hx hb hr (fun t ht hW => ⟨⟨(((iB 3) + (1 : Int32)) - (1 : Int32)), (), rfl, by rw [← h'], by rw [← hWQ, ← h', ht]; exact hP, va_K.moved hW.alike hK⟩, hS.F ht⟩) hS.2.2 dX0_addName_36
  · have h := g_f h cz
    refine lv_iconst (v := (-1)) hx hb dX0_addName_8 (by decide) ?_
    have h' := Option.some.inj h
    rw [← hQQ]
    exact W.iret (v := (-1 : Int32)) hx hb hr (fun t ht hW => ⟨⟨(-1 : Int32), (), rfl, by rw [← h'], by rw [← hWQ, ← h', ht]; exact hP, va_K.moved hW.alike hK⟩, hS.F ht⟩) hS.2.2 dX0_addName_9
set_option maxHeartbeats 8000000 in
set_option maxRecDepth 100000 in
theorem c_R_takeName (l : Launch) (dC : Nat → ClassId) (dI : Nat → Nat → Nat) (cy : Nat → ClassId) (ad : Nat → Nat) (sz : Nat) (N : Nat) (iR : Nat → Int32) (iT : Nat → Int32) (wT : Int64) (tx : Nat → Int32) (iB : Nat → Int32) (lB : Nat → Nat → Int64) (aB : Nat → Nat → Int32) (iC : Nat → Int32) (aC : Nat → Nat → Int32) (q : Int32 × (Nat → Int32) × (Nat → Int32) × Int64 × (Nat → Int32) × (Nat → Nat → Int64) × (Nat → Int32) × (Nat → Nat → Int32)) (h : f_R_takeName N iR iT wT tx iB lB aB iC aC = some q) : Met l yX4_takeName wsX4_takeName ({ frames := 3, cells := 0, slots := 0, locals := 74 } : Room) (cP (dC, dI) cy [.ref (ad 0)] (zzR ad cy (ad 3) (ad 10) iR iT wT tx iB lB aB iC aC) sz) (cQi (dC, dI) cy q.1 (zzR ad cy (ad 3) (ad 10) q.2.1 q.2.2.1 q.2.2.2.1 tx q.2.2.2.2.1 q.2.2.2.2.2.1 aB q.2.2.2.2.2.2.1 q.2.2.2.2.2.2.2) (va_A (zzR ad cy (ad 3) (ad 10) iR iT wT tx iB lB aB iC aC) sz)) 0 0 (va_A (zzR ad cy (ad 3) (ad 10) iR iT wT tx iB lB aB iC aC) sz) := by
  refine Met.ofW (cc := cX4_takeName) (maxL := 3) (ret := (some .int)) (by decide) rfl ?_
  intro p e s m args below meth c s₁ B hml hv
  obtain ⟨hav, hsz, hP, hK, hD0, hN⟩ := hv
  have hx := B.exec
  have hb := B.bytes
  have hr := B.returns
  have hts := atoms_spec (ws := wsX4_takeName) B.pre
  have hown : s.vm.findClass RX4 = some m.cls := findClass_of_methodNamed B.named
  have hlocks := B.notSynchronized
  subst hsz
  have hD := hD0.self (sz := s.heap.size)
  generalize hAe : va_A (zzR ad cy (ad 3) (ad 10) iR iT wT tx iB lB aB iC aC) s.heap.size = A at hD ⊢
  have hA : ∀ q : Nat, s.heap.size ≤ q → A q := fun q h => by rw [← hAe]; exact Or.inr h
  have hS : va_S A s.heap s.heap [] := va_S.rf
  generalize hWQ : (zzR ad cy (ad 3) (ad 10) q.2.1 q.2.2.1 q.2.2.2.1 tx q.2.2.2.2.1 q.2.2.2.2.2.1 aB q.2.2.2.2.2.2.1 q.2.2.2.2.2.2.2) = WQ
  generalize hQQ : MQ below (cQi (dC, dI) cy q.1 WQ A) args s 0 0 A = QQ
  have hl := lv_entry ([.ref (ad 0)] : List Value) (n := 3) (Nat.le_of_ble_eq_true rfl)
  have hfr := lg_entry_eq m ([.ref (ad 0)] : List Value) 3
  rw [← hav] at hfr
  rw [hfr]
  clear hfr hav
  generalize (lg_sl ([.ref (ad 0)] : List Value) ++ List.replicate (3 - (lg_sl ([.ref (ad 0)] : List Value)).length) Slot.unset).toArray = ls at hl ⊢
  have hl : lv_has ls 3 [(0, .ref (ad 0))] := hl
  have kf34 := hts _ (List.mem_cons_of_mem _ m_fl_X4_34)
  have ki4 := (fun w h => List.mem_cons_of_mem _ (i_X4 w h) : ∀ w ∈ u_ws RX4 TX4 5, w ∈ wsX4_takeName)
  have kf20 := hts _ (List.mem_cons_of_mem _ m_fl_X4_20)
  have kf24 := hts _ (List.mem_cons_of_mem _ m_fl_X4_24)
  have kf48 := hts _ (List.mem_cons_of_mem _ m_fl_X4_48)
  have ki5 := (fun w h => List.mem_cons_of_mem _ (i_X5 w h) : ∀ w ∈ u_ws RX5 TX5 6, w ∈ wsX4_takeName)
  refine (?_ : ∀ (H : Heap) (locs : List Loc), va_P (dC, dI) vwCl (zzR ad cy (ad 3) (ad 10) iR iT wT tx iB lB aB iC aC) H → va_D A (zzR ad cy (ad 3) (ad 10) iR iT wT tx iB lB aB iC aC) → va_S A s.heap H locs → W p l e ({ frames := 3, cells := 0, slots := 0, locals := 74 } : Room) s m args below meth c H locs 0 0 QQ (F0 m 0 ls [])) s.heap [] hP hD hS
  clear hP hD hS
  have B64 : ∀ (v1 : Int32) (x_iB : Nat → Int32) (x_lB : Nat → Nat → Int64) (H : Heap) (locs : List Loc) (ls : Array Slot), f_R_takeName_64 N iR iT wT tx iB lB aB iC aC v1 x_iB x_lB = some q → va_P (dC, dI) vwCl (zzR ad cy (ad 3) (ad 10) iR iT wT tx x_iB x_lB aB iC aC) H → va_D A (zzR ad cy (ad 3) (ad 10) iR iT wT tx x_iB x_lB aB iC aC) → va_S A s.heap H locs → lv_has ls 3 [(0, .ref (ad 0)), (1, .int v1)] → W p l e ({ frames := 3, cells := 0, slots := 0, locals := 74 } : Room) s m args below meth c H locs 0 0 QQ (F0 m 64 ls []) := by
    intro v1 x_iB x_lB H locs ls h hP hD hS hl
    unfold f_R_takeName_64 at h
    refine lv_iload_n hx hb dX4_takeName_64 rfl (lv_at hl 1 rfl) ?_
    refine lv_iconst (v := (-1)) hx hb dX4_takeName_65 (by decide) ?_
    refine lv_icmp_ne (tgt := 75) hx hb dX4_takeName_66 (by decide) (fun cz => ?_) (fun cz => ?_)
    · have h := g_f h cz
      refine lv_aload_n hx hb dX4_takeName_75 rfl (lv_at hl 0 rfl) ?_
      refine va_get (D := (dC, dI)) (ci := 4) (v := .ref (ad 10)) (C := RX4) (T := TX4) (N := 5) hx hb hts ki4 hown hK hP 0 rfl rfl 2 (by decide) kf34 (fun _ h9 => h9) rfl dX4_takeName_76 ?_
      refine lv_iconst (v := 0) hx hb dX4_takeName_79 (by decide) ?_
      refine lv_iload_n hx hb dX4_takeName_80 rfl (lv_at hl 1 rfl) ?_
      refine lv_iconst (v := 0) hx hb dX4_takeName_81 (by decide) ?_
      obtain ⟨q82, e82, h⟩ := g_b h
      refine callVi (cc := cX4_takeName) (ws' := zzR ad cy (ad 3) (ad 10) iR iT wT tx x_iB x_lB aB (us iC [(4, q82.2.1), (9, q82.2.2.1)]) (us aC [(0, q82.2.2.2.1), (1, q82.2.2.2.2.1), (2, q82.2.2.2.2.2.1), (3, q82.2.2.2.2.2.2.1), (5, q82.2.2.2.2.2.2.2.1), (6, q82.2.2.2.2.2.2.2.2.1), (7, q82.2.2.2.2.2.2.2.2.2.1), (8, q82.2.2.2.2.2.2.2.2.2.2)])) (As := [.int ((0 : Int32)), .int v1, .int ((0 : Int32))]) (rest := []) ⟨hx, hb, hml, hown, hts⟩ (c_C_make l dC dI cy (fun i => ad (i + 10)) H.size N ((0 : Int32)) v1 ((0 : Int32)) iC aC q82 e82) (cwV 3 hts (goodV m_ml_X4_156 m_im_X1_make m_se_X1_make m_in_X1 m_cd_X1_make) rfl rfl rfl (by decide +kernel) ⟨Nat.le_of_ble_eq_true rfl, Nat.le_of_ble_eq_true rfl⟩) hN hK hP hD hS hA [10, 11, 12, 13, 14, 15, 16, 17, 18] [none, none, none, none, none, none, none, none, none, none, some 0, some 1, some 2, some 3, some 4, some 5, some 6, some 7, some 8] rfl rfl rfl rfl rfl rfl 10 rfl rfl rfl hl.1 rfl (Nat.le_of_ble_eq_true rfl) dX4_takeName_82 ⟨Nat.zero_le _, Nat.zero_le _⟩ (fun H locs hP hD hS => ?_)
      refine lv_istore_n (lv' := [(2, .int q82.1), (0, .ref (ad 0)), (1, .int v1)]) hx hb dX4_takeName_85 rfl hl (by decide) rfl (fun ls hl => ?_)
      refine lv_iload_n hx hb dX4_takeName_86 rfl (lv_at hl 0 rfl) ?_
      refine lv_iconst (v := (-1)) hx hb dX4_takeName_87 (by decide) ?_
      refine lv_icmp_ne (tgt := 97) hx hb dX4_takeName_88 (by decide) (fun cz => ?_) (fun cz => ?_)
      · have h := g_f h cz
        refine lv_aload_n hx hb dX4_takeName_97 rfl (lv_at hl 1 rfl) ?_
        refine va_get (D := (dC, dI)) (ci := 4) (v := .ref (ad 1)) (C := RX4) (T := TX4) (N := 5) hx hb hts ki4 hown hK hP 0 rfl rfl 0 (by decide) kf20 (fun _ h9 => h9) rfl dX4_takeName_98 ?_
        obtain ⟨q101, e101, h⟩ := g_b h
        refine callVv (cc := cX4_takeName) (ws' := zzR ad cy (ad 3) (ad 10) iR (us iT [(2, q101.1), (3, q101.2.1), (4, q101.2.2.1)]) q101.2.2.2 tx x_iB x_lB aB (us iC [(4, q82.2.1), (9, q82.2.2.1)]) (us aC [(0, q82.2.2.2.1), (1, q82.2.2.2.2.1), (2, q82.2.2.2.2.2.1), (3, q82.2.2.2.2.2.2.1), (5, q82.2.2.2.2.2.2.2.1), (6, q82.2.2.2.2.2.2.2.2.1), (7, q82.2.2.2.2.2.2.2.2.2.1), (8, q82.2.2.2.2.2.2.2.2.2.2)])) (As := []) (rest := []) ⟨hx, hb, hml, hown, hts⟩ (c_T_step l dC dI cy (fun i => ad (i + 1)) H.size N iT wT tx q101 e101) (cwV 0 hts (goodV m_ml_X4_87 m_im_X5_step m_se_X5_step m_in_X5 m_cd_X5_step) rfl rfl rfl (by decide +kernel) ⟨Nat.le_of_ble_eq_true rfl, Nat.le_of_ble_eq_true rfl⟩) hN hK hP hD hS hA [1, 2] [none, some 0, some 1, none, none, none, none, none, none, none, none, none, none, none, none, none, none, none, none] rfl rfl rfl rfl rfl rfl 1 rfl rfl rfl hl.1 rfl (Nat.le_of_ble_eq_true rfl) dX4_takeName_101 ⟨Nat.zero_le _, Nat.zero_le _⟩ (fun H locs hP hD hS => ?_)
        refine lv_iload_n hx hb dX4_takeName_104 rfl (lv_at hl 0 rfl) ?_
        have h' := Option.some.inj h
        rw [← hQQ]
        exact W.iret (v := q82.1) hx hb hr (fun t ht hW => ⟨⟨q82.1, (), rfl, by rw [← h'], by rw [← hWQ, ← h', ht]; exact hP, va_K.moved hW.alike hK⟩, hS.F ht⟩) hS.2.2 dX4_takeName_105
      · have h := g_t h cz
        refine lv_aload_n hx hb dX4_takeName_91 rfl (lv_at hl 1 rfl) ?_
        refine lv_iconst (v := 5) hx hb dX4_takeName_92 (by decide) ?_
        obtain ⟨q93, e93, h⟩ := g_b h
        refine callVis (cc := cX4_takeName) (w1 := zzR ad cy (ad 3) (ad 10) (us iR [(3, q93.2.1), (4, q93.2.2)]) iT wT tx x_iB x_lB aB (us iC [(4, q82.2.1), (9, q82.2.2.1)]) (us aC [(0, q82.2.2.2.1), (1, q82.2.2.2.2.1), (2, q82.2.2.2.2.2.1), (3, q82.2.2.2.2.2.2.1), (5, q82.2.2.2.2.2.2.2.1), (6, q82.2.2.2.2.2.2.2.2.1), (7, q82.2.2.2.2.2.2.2.2.2.1), (8, q82.2.2.2.2.2.2.2.2.2.2)])) (As := [.int ((5 : Int32))]) (rest := []) ⟨hx, hb, hml, hown, hts⟩ (c_R_failHere l dC dI cy ad H.size ((5 : Int32)) iR iT wT tx x_iB x_lB aB ((us iC [(4, q82.2.1), (9, q82.2.2.1)])) ((us aC [(0, q82.2.2.2.1), (1, q82.2.2.2.2.1), (2, q82.2.2.2.2.2.1), (3, q82.2.2.2.2.2.2.1), (5, q82.2.2.2.2.2.2.2.1), (6, q82.2.2.2.2.2.2.2.2.1), (7, q82.2.2.2.2.2.2.2.2.2.1), (8, q82.2.2.2.2.2.2.2.2.2.2)])) q93 e93) (cwV 1 hts (goodV m_ml_X4_77 m_im_X4_failHere m_se_X4_failHere m_in_X4 m_cd_X4_failHere) rfl rfl rfl (by decide +kernel) ⟨Nat.le_of_ble_eq_true rfl, Nat.le_of_ble_eq_true rfl⟩) hN hK hP hD hS hA rfl 0 rfl rfl rfl hl.1 rfl (Nat.le_of_ble_eq_true rfl) dX4_takeName_93 ⟨Nat.zero_le _, Nat.zero_le _⟩ (fun H locs hP hD hS => ?_)
        have h' := Option.some.inj h
        rw [← hQQ]
        exact W.iret (v := q93.1) hx hb hr (fun t ht hW => ⟨⟨q93.1, (), rfl, by rw [← h'], by rw [← hWQ, ← h', ht]; exact hP, va_K.moved hW.alike hK⟩, hS.F ht⟩) hS.2.2 dX4_takeName_96
    · have h := g_t h cz
      refine lv_aload_n hx hb dX4_takeName_69 rfl (lv_at hl 0 rfl) ?_
      refine lv_iconst (v := 3) hx hb dX4_takeName_70 (by decide) ?_
      obtain ⟨q71, e71, h⟩ := g_b h
      refine callVis (cc := cX4_takeName) (w1 := zzR ad cy (ad 3) (ad 10) (us iR [(3, q71.2.1), (4, q71.2.2)]) iT wT tx x_iB x_lB aB iC aC) (As := [.int ((3 : Int32))]) (rest := []) ⟨hx, hb, hml, hown, hts⟩ (c_R_failHere l dC dI cy ad H.size ((3 : Int32)) iR iT wT tx x_iB x_lB aB iC aC q71 e71) (cwV 1 hts (goodV m_ml_X4_77 m_im_X4_failHere m_se_X4_failHere m_in_X4 m_cd_X4_failHere) rfl rfl rfl (by decide +kernel) ⟨Nat.le_of_ble_eq_true rfl, Nat.le_of_ble_eq_true rfl⟩) hN hK hP hD hS hA rfl 0 rfl rfl rfl hl.1 rfl (Nat.le_of_ble_eq_true rfl) dX4_takeName_71 ⟨Nat.zero_le _, Nat.zero_le _⟩ (fun H locs hP hD hS => ?_)
      have h' := Option.some.inj h
      rw [← hQQ]
      exact W.iret (v := q71.1) hx hb hr (fun t ht hW => ⟨⟨q71.1, (), rfl, by rw [← h'], by rw [← hWQ, ← h', ht]; exact hP, va_K.moved hW.alike hK⟩, hS.F ht⟩) hS.2.2 dX4_takeName_74
  have B44 : ∀ (v1 : Int32) (H : Heap) (locs : List Loc) (ls : Array Slot), f_R_takeName_44 N iR iT wT tx iB lB aB iC aC v1 = some q → va_P (dC, dI) vwCl (zzR ad cy (ad 3) (ad 10) iR iT wT tx iB lB aB iC aC) H → va_D A (zzR ad cy (ad 3) (ad 10) iR iT wT tx iB lB aB iC aC) → va_S A s.heap H locs → lv_has ls 3 [(0, .ref (ad 0)), (1, .int v1)] → W p l e ({ frames := 3, cells := 0, slots := 0, locals := 74 } : Room) s m args below meth c H locs 0 0 QQ (F0 m 44 ls []) := by
    intro v1 H locs ls h hP hD hS hl
    unfold f_R_takeName_44 at h
    refine lv_iload_n hx hb dX4_takeName_44 rfl (lv_at hl 1 rfl) ?_
    refine lv_iconst (v := (-1)) hx hb dX4_takeName_45 (by decide) ?_
    refine lv_icmp_ne (tgt := 64) hx hb dX4_takeName_46 (by decide) (fun cz => ?_) (fun cz => ?_)
    · have h := g_f h cz
      exact B64 v1 iB lB H locs ls h hP hD hS (lv_sub hl [0, 1] rfl)
    · have h := g_t h cz
      refine lv_aload_n hx hb dX4_takeName_49 rfl (lv_at hl 0 rfl) ?_
      refine va_get (D := (dC, dI)) (ci := 4) (v := .ref (ad 3)) (C := RX4) (T := TX4) (N := 5) hx hb hts ki4 hown hK hP 0 rfl rfl 1 (by decide) kf24 (fun _ h9 => h9) rfl dX4_takeName_50 ?_
      refine lv_aload_n hx hb dX4_takeName_53 rfl (lv_at hl 0 rfl) ?_
      refine va_get (D := (dC, dI)) (ci := 4) (v := .ref (ad 1)) (C := RX4) (T := TX4) (N := 5) hx hb hts ki4 hown hK hP 0 rfl rfl 0 (by decide) kf20 (fun _ h9 => h9) rfl dX4_takeName_54 ?_
      refine va_get (D := (dC, dI)) (ci := 5) (v := .long wT) (C := RX5) (T := TX5) (N := 6) hx hb hts ki5 hown hK hP 1 rfl rfl 5 (by decide) kf48 (fun _ h9 => h9) rfl dX4_takeName_57 ?_
      obtain ⟨q60, e60, h⟩ := g_b h
      refine callVi (cc := cX4_takeName) (ws' := zzR ad cy (ad 3) (ad 10) iR iT wT tx (us iB [(3, q60.2.1)]) (us lB [(2, q60.2.2)]) aB iC aC) (As := [.long wT]) (rest := []) ⟨hx, hb, hml, hown, hts⟩ (c_B_addName l dC dI cy (fun i => ad (i + 3)) H.size wT iB lB aB iC aC q60 e60) (cwV 1 hts (goodV m_ml_X4_191 m_im_X0_addName m_se_X0_addName m_in_X0 m_cd_X0_addName) rfl rfl rfl (by decide +kernel) ⟨Nat.le_of_ble_eq_true rfl, Nat.le_of_ble_eq_true rfl⟩) hN hK hP hD hS hA [3, 4, 5, 6, 7, 8, 9, 10, 11, 12, 13, 14, 15, 16, 17, 18] [none, none, none, some 0, some 1, some 2, some 3, some 4, some 5, some 6, some 7, some 8, some 9, some 10, some 11, some 12, some 13, some 14, some 15] rfl rfl rfl rfl rfl rfl 3 rfl rfl rfl hl.1 rfl (Nat.le_of_ble_eq_true rfl) dX4_takeName_60 ⟨Nat.zero_le _, Nat.zero_le _⟩ (fun H locs hP hD hS => ?_)
      refine lv_istore_n (lv' := [(1, .int q60.1), (0, .ref (ad 0))]) hx hb dX4_takeName_63 rfl hl (by decide) rfl (fun ls hl => ?_)
      exact B64 q60.1 ((us iB [(3, q60.2.1)])) ((us lB [(2, q60.2.2)])) H locs ls h hP hD hS (lv_sub hl [1, 0] rfl)
  intro H locs hP hD hS
  unfold f_R_takeName at h
  refine lv_aload_n hx hb dX4_takeName_0 rfl (lv_at hl 0 rfl) ?_
  refine va_get (D := (dC, dI)) (ci := 4) (v := .ref (ad 3)) (C := RX4) (T := TX4) (N := 5) hx hb hts ki4 hown hK hP 0 rfl rfl 1 (by decide) kf24 (fun _ h9 => h9) rfl dX4_takeName_1 ?_
  refine lv_aload_n hx hb dX4_takeName_4 rfl (lv_at hl 0 rfl) ?_
  refine va_get (D := (dC, dI)) (ci := 4) (v := .ref (ad 1)) (C := RX4) (T := TX4) (N := 5) hx hb hts ki4 hown hK hP 0 rfl rfl 0 (by decide) kf20 (fun _ h9 => h9) rfl dX4_takeName_5 ?_
  refine va_get (D := (dC, dI)) (ci := 5) (v := .long wT) (C := RX5) (T := TX5) (N := 6) hx hb hts ki5 hown hK hP 1 rfl rfl 5 (by decide) kf48 (fun _ h9 => h9) rfl dX4_takeName_8 ?_
  obtain ⟨q11, e11, h⟩ := g_b h
  refine callVi (cc := cX4_takeName) (ws' := zzR ad cy (ad 3) (ad 10) iR iT wT tx iB lB aB iC aC) (As := [.long wT]) (rest := []) ⟨hx, hb, hml, hown, hts⟩ (c_B_findName l dC dI cy (fun i => ad (i + 3)) H.size N wT iB lB aB iC aC q11 e11) (cwV 1 hts (goodV m_ml_X4_142 m_im_X0_findName m_se_X0_findName m_in_X0 m_cd_X0_findName) rfl rfl rfl (by decide +kernel) ⟨Nat.le_of_ble_eq_true rfl, Nat.le_of_ble_eq_true rfl⟩) hN hK hP hD hS hA [3, 4, 5, 6, 7, 8, 9, 10, 11, 12, 13, 14, 15, 16, 17, 18] [none, none, none, some 0, some 1, some 2, some 3, some 4, some 5, some 6, some 7, some 8, some 9, some 10, some 11, some 12, some 13, some 14, some 15] rfl rfl rfl rfl rfl rfl 3 rfl rfl rfl hl.1 rfl (Nat.le_of_ble_eq_true rfl) dX4_takeName_11 ⟨Nat.zero_le _, Nat.zero_le _⟩ (fun H locs hP hD hS => ?_)
  refine lv_istore_n (lv' := [(1, .int q11), (0, .ref (ad 0))]) hx hb dX4_takeName_14 rfl hl (by decide) rfl (fun ls hl => ?_)
  refine lv_iload_n hx hb dX4_takeName_15 rfl (lv_at hl 0 rfl) ?_
  refine lv_iconst (v := (-1)) hx hb dX4_takeName_16 (by decide) ?_
  refine lv_icmp_ne (tgt := 44) hx hb dX4_takeName_17 (by decide) (fun cz => ?_) (fun cz => ?_)
  · have h := g_f h cz
    exact B44 q11 H locs ls h hP hD hS (lv_sub hl [1, 0] rfl)
  · have h := g_t h cz
    refine lv_aload_n hx hb dX4_takeName_20 rfl (lv_at hl 1 rfl) ?_
    refine va_get (D := (dC, dI)) (ci := 4) (v := .ref (ad 3)) (C := RX4) (T := TX4) (N := 5) hx hb hts ki4 hown hK hP 0 rfl rfl 1 (by decide) kf24 (fun _ h9 => h9) rfl dX4_takeName_21 ?_
    refine lv_aload_n hx hb dX4_takeName_24 rfl (lv_at hl 1 rfl) ?_
    refine va_get (D := (dC, dI)) (ci := 4) (v := .ref (ad 1)) (C := RX4) (T := TX4) (N := 5) hx hb hts ki4 hown hK hP 0 rfl rfl 0 (by decide) kf20 (fun _ h9 => h9) rfl dX4_takeName_25 ?_
    refine va_get (D := (dC, dI)) (ci := 5) (v := .long wT) (C := RX5) (T := TX5) (N := 6) hx hb hts ki5 hown hK hP 1 rfl rfl 5 (by decide) kf48 (fun _ h9 => h9) rfl dX4_takeName_28 ?_
    obtain ⟨q31, e31, h⟩ := g_b h
    refine callVi (cc := cX4_takeName) (ws' := zzR ad cy (ad 3) (ad 10) iR iT wT tx iB lB aB iC aC) (As := [.long wT]) (rest := []) ⟨hx, hb, hml, hown, hts⟩ (c_B_findRole l dC dI cy (fun i => ad (i + 3)) H.size N wT iB lB aB iC aC q31 e31) (cwV 1 hts (goodV m_ml_X4_138 m_im_X0_findRole m_se_X0_findRole m_in_X0 m_cd_X0_findRole) rfl rfl rfl (by decide +kernel) ⟨Nat.le_of_ble_eq_true rfl, Nat.le_of_ble_eq_true rfl⟩) hN hK hP hD hS hA [3, 4, 5, 6, 7, 8, 9, 10, 11, 12, 13, 14, 15, 16, 17, 18] [none, none, none, some 0, some 1, some 2, some 3, some 4, some 5, some 6, some 7, some 8, some 9, some 10, some 11, some 12, some 13, some 14, some 15] rfl rfl rfl rfl rfl rfl 3 rfl rfl rfl hl.1 rfl (Nat.le_of_ble_eq_true rfl) dX4_takeName_31 ⟨Nat.zero_le _, Nat.zero_le _⟩ (fun H locs hP hD hS => ?_)
    refine lv_iconst (v := (-1)) hx hb dX4_takeName_34 (by decide) ?_
    refine lv_icmp_eq (tgt := 44) hx hb dX4_takeName_35 (by decide) (fun cz => ?_) (fun cz => ?_)
    · have h := g_t h cz
      exact B44 q11 H locs ls h hP hD hS (lv_sub hl [1, 0] rfl)
    · have h := g_f h cz
      refine lv_aload_n hx hb dX4_takeName_38 rfl (lv_at hl 1 rfl) ?_
      refine lv_iconst (v := 4) hx hb dX4_takeName_39 (by decide) ?_
      obtain ⟨q40, e40, h⟩ := g_b h
      refine callVis (cc := cX4_takeName) (w1 := zzR ad cy (ad 3) (ad 10) (us iR [(3, q40.2.1), (4, q40.2.2)]) iT wT tx iB lB aB iC aC) (As := [.int ((4 : Int32))]) (rest := []) ⟨hx, hb, hml, hown, hts⟩ (c_R_failHere l dC dI cy ad H.size ((4 : Int32)) iR iT wT tx iB lB aB iC aC q40 e40) (cwV 1 hts (goodV m_ml_X4_77 m_im_X4_failHere m_se_X4_failHere m_in_X4 m_cd_X4_failHere) rfl rfl rfl (by decide +kernel) ⟨Nat.le_of_ble_eq_true rfl, Nat.le_of_ble_eq_true rfl⟩) hN hK hP hD hS hA rfl 0 rfl rfl rfl hl.1 rfl (Nat.le_of_ble_eq_true rfl) dX4_takeName_40 ⟨Nat.zero_le _, Nat.zero_le _⟩ (fun H locs hP hD hS => ?_)
      have h' := Option.some.inj h
      rw [← hQQ]
      exact W.iret (v := q40.1) hx hb hr (fun t ht hW => ⟨⟨q40.1, (), rfl, by rw [← h'], by rw [← hWQ, ← h', ht]; exact hP, va_K.moved hW.alike hK⟩, hS.F ht⟩) hS.2.2 dX4_takeName_43
set_option maxHeartbeats 8000000 in
set_option maxRecDepth 100000 in
theorem c_R_takeAll (l : Launch) (dC : Nat → ClassId) (dI : Nat → Nat → Nat) (cy : Nat → ClassId) (ad : Nat → Nat) (sz : Nat) (N : Nat) (fo lo : Nat) (one : Int32 → (Nat → Int32) → (Nat → Int32) → Int64 → (Nat → Int32) → (Nat → Int32) → (Nat → Nat → Int64) → (Nat → Nat → Int32) → (Nat → Int32) → (Nat → Nat → Int32) → Option (Int32 × (Nat → Int32) × (Nat → Int32) × Int64 × (Nat → Int32) × (Nat → Nat → Int64) × (Nat → Int32) × (Nat → Nat → Int32))) (hone : ∀ (sz : Nat) (a1 : Int32) (iR : Nat → Int32) (iT : Nat → Int32) (wT : Int64) (tx : Nat → Int32) (iB : Nat → Int32) (lB : Nat → Nat → Int64) (aB : Nat → Nat → Int32) (iC : Nat → Int32) (aC : Nat → Nat → Int32) (q : Int32 × (Nat → Int32) × (Nat → Int32) × Int64 × (Nat → Int32) × (Nat → Nat → Int64) × (Nat → Int32) × (Nat → Nat → Int32)), one a1 iR iT wT tx iB lB aB iC aC = some q → Met l yX4_takeOne wsX4_takeOne ({ frames := fo, cells := 0, slots := 0, locals := lo } : Room) (cP (dC, dI) cy [.ref (ad 0), .int a1] (zzR ad cy (ad 3) (ad 10) iR iT wT tx iB lB aB iC aC) sz) (cQi (dC, dI) cy q.1 (zzR ad cy (ad 3) (ad 10) q.2.1 q.2.2.1 q.2.2.2.1 tx q.2.2.2.2.1 q.2.2.2.2.2.1 aB q.2.2.2.2.2.2.1 q.2.2.2.2.2.2.2) (va_A (zzR ad cy (ad 3) (ad 10) iR iT wT tx iB lB aB iC aC) sz)) 0 0 (va_A (zzR ad cy (ad 3) (ad 10) iR iT wT tx iB lB aB iC aC) sz)) (a1 : Int32) (iR : Nat → Int32) (iT : Nat → Int32) (wT : Int64) (tx : Nat → Int32) (iB : Nat → Int32) (lB : Nat → Nat → Int64) (aB : Nat → Nat → Int32) (iC : Nat → Int32) (aC : Nat → Nat → Int32) (q : Int32 × (Nat → Int32) × (Nat → Int32) × Int64 × (Nat → Int32) × (Nat → Nat → Int64) × (Nat → Int32) × (Nat → Nat → Int32)) (h : f_R_takeAll N one a1 iR iT wT tx iB lB aB iC aC = some q) : Met l yX4_takeAll wsX4_takeAll ({ frames := fo + 3, cells := 0, slots := 0, locals := lo + 74 } : Room) (cP (dC, dI) cy [.ref (ad 0), .int a1] (zzR ad cy (ad 3) (ad 10) iR iT wT tx iB lB aB iC aC) sz) (cQi (dC, dI) cy q.1 (zzR ad cy (ad 3) (ad 10) q.2.1 q.2.2.1 q.2.2.2.1 tx q.2.2.2.2.1 q.2.2.2.2.2.1 aB q.2.2.2.2.2.2.1 q.2.2.2.2.2.2.2) (va_A (zzR ad cy (ad 3) (ad 10) iR iT wT tx iB lB aB iC aC) sz)) 0 0 (va_A (zzR ad cy (ad 3) (ad 10) iR iT wT tx iB lB aB iC aC) sz) := by
  refine Met.ofW (cc := cX4_takeAll) (maxL := 5) (ret := (some .int)) (by decide) rfl ?_
  intro p e s m args below meth c s₁ B hml hv
  obtain ⟨hav, hsz, hP, hK, hD0, hN⟩ := hv
  have hx := B.exec
  have hb := B.bytes
  have hr := B.returns
  have hts := atoms_spec (ws := wsX4_takeAll) B.pre
  have hown : s.vm.findClass RX4 = some m.cls := findClass_of_methodNamed B.named
  have hlocks := B.notSynchronized
  subst hsz
  have hD := hD0.self (sz := s.heap.size)
  generalize hAe : va_A (zzR ad cy (ad 3) (ad 10) iR iT wT tx iB lB aB iC aC) s.heap.size = A at hD ⊢
  have hA : ∀ q : Nat, s.heap.size ≤ q → A q := fun q h => by rw [← hAe]; exact Or.inr h
  have hS : va_S A s.heap s.heap [] := va_S.rf
  generalize hWQ : (zzR ad cy (ad 3) (ad 10) q.2.1 q.2.2.1 q.2.2.2.1 tx q.2.2.2.2.1 q.2.2.2.2.2.1 aB q.2.2.2.2.2.2.1 q.2.2.2.2.2.2.2) = WQ
  generalize hQQ : MQ below (cQi (dC, dI) cy q.1 WQ A) args s 0 0 A = QQ
  have hl := lv_entry ([.ref (ad 0), .int a1] : List Value) (n := 5) (Nat.le_of_ble_eq_true rfl)
  have hfr := lg_entry_eq m ([.ref (ad 0), .int a1] : List Value) 5
  rw [← hav] at hfr
  rw [hfr]
  clear hfr hav
  generalize (lg_sl ([.ref (ad 0), .int a1] : List Value) ++ List.replicate (5 - (lg_sl ([.ref (ad 0), .int a1] : List Value)).length) Slot.unset).toArray = ls at hl ⊢
  have hl : lv_has ls 5 [(0, .ref (ad 0)), (1, .int a1)] := hl
  have kf20 := hts _ (List.mem_cons_of_mem _ m_fl_X4_20)
  have ki4 := (fun w h => List.mem_cons_of_mem _ (i_X4 w h) : ∀ w ∈ u_ws RX4 TX4 5, w ∈ wsX4_takeAll)
  have kf48 := hts _ (List.mem_cons_of_mem _ m_fl_X4_48)
  have ki5 := (fun w h => List.mem_cons_of_mem _ (i_X5 w h) : ∀ w ∈ u_ws RX5 TX5 6, w ∈ wsX4_takeAll)
  have kc165 := hts _ (List.mem_cons_of_mem _ m_kl_X4_165)
  have kf34 := hts _ (List.mem_cons_of_mem _ m_fl_X4_34)
  refine (?_ : ∀ (H : Heap) (locs : List Loc), va_P (dC, dI) vwCl (zzR ad cy (ad 3) (ad 10) iR iT wT tx iB lB aB iC aC) H → va_D A (zzR ad cy (ad 3) (ad 10) iR iT wT tx iB lB aB iC aC) → va_S A s.heap H locs → W p l e ({ frames := fo + 3, cells := 0, slots := 0, locals := lo + 74 } : Room) s m args below meth c H locs 0 0 QQ (F0 m 0 ls [])) s.heap [] hP hD hS
  clear hP hD hS
  have B8 : ∀ (n : Nat) (v1 : Int32) (v2 : Int32) (v3 : Int32) (x_iR : Nat → Int32) (x_iT : Nat → Int32) (x_wT : Int64) (x_iB : Nat → Int32) (x_lB : Nat → Nat → Int64) (x_iC : Nat → Int32) (x_aC : Nat → Nat → Int32) (H : Heap) (locs : List Loc) (ls : Array Slot), f_R_takeAll_8 N one iR iT wT tx iB lB aB iC aC v1 n v2 v3 x_iR x_iT x_wT x_iB x_lB x_iC x_aC = some q → va_P (dC, dI) vwCl (zzR ad cy (ad 3) (ad 10) x_iR x_iT x_wT tx x_iB x_lB aB x_iC x_aC) H → va_D A (zzR ad cy (ad 3) (ad 10) x_iR x_iT x_wT tx x_iB x_lB aB x_iC x_aC) → va_S A s.heap H locs → lv_has ls 5 [(0, .ref (ad 0)), (1, .int v1), (2, .int v2), (3, .int v3)] → W p l e ({ frames := fo + 3, cells := 0, slots := 0, locals := lo + 74 } : Room) s m args below meth c H locs 0 0 QQ (F0 m 8 ls []) := by
    intro n
    induction n with
    | zero =>
      intro v1 v2 v3 x_iR x_iT x_wT x_iB x_lB x_iC x_aC H locs ls h hP hD hS hl
      rw [f_R_takeAll_8] at h
      cases h
    | succ n ih =>
      intro v1 v2 v3 x_iR x_iT x_wT x_iB x_lB x_iC x_aC H locs ls h hP hD hS hl
      rw [f_R_takeAll_8] at h
      refine lv_iload_n hx hb dX4_takeAll_8 rfl (lv_at hl 3 rfl) ?_
      refine lv_sipush (v := 200) hx hb dX4_takeAll_9 (by decide) ?_
      refine lv_icmp_gt (tgt := 86) hx hb dX4_takeAll_12 (by decide) (fun cz => ?_) (fun cz => ?_)
      · have h := g_t h cz
        refine lv_iload_n hx hb dX4_takeAll_86 rfl (lv_at hl 2 rfl) ?_
        have h' := Option.some.inj h
        rw [← hQQ]
        exact W.iret (v := v2) hx hb hr (fun t ht hW => ⟨⟨v2, (), rfl, by rw [← h'], by rw [← hWQ, ← h', ht]; exact hP, va_K.moved hW.alike hK⟩, hS.F ht⟩) hS.2.2 dX4_takeAll_87
      · have h := g_f h cz
        refine lv_iload_n hx hb dX4_takeAll_15 rfl (lv_at hl 2 rfl) ?_
        refine lv_iconst (v := (-1)) hx hb dX4_takeAll_16 (by decide) ?_
        refine lv_icmp_eq (tgt := 86) hx hb dX4_takeAll_17 (by decide) (fun cz => ?_) (fun cz => ?_)
        · have h := g_t h cz
          refine lv_iload_n hx hb dX4_takeAll_86 rfl (lv_at hl 2 rfl) ?_
          have h' := Option.some.inj h
          rw [← hQQ]
          exact W.iret (v := v2) hx hb hr (fun t ht hW => ⟨⟨v2, (), rfl, by rw [← h'], by rw [← hWQ, ← h', ht]; exact hP, va_K.moved hW.alike hK⟩, hS.F ht⟩) hS.2.2 dX4_takeAll_87
        · have h := g_f h cz
          refine lv_aload_n hx hb dX4_takeAll_20 rfl (lv_at hl 0 rfl) ?_
          refine va_get (D := (dC, dI)) (ci := 4) (v := .ref (ad 1)) (C := RX4) (T := TX4) (N := 5) hx hb hts ki4 hown hK hP 0 rfl rfl 0 (by decide) kf20 (fun _ h9 => h9) rfl dX4_takeAll_21 ?_
          refine va_get (D := (dC, dI)) (ci := 5) (v := .long x_wT) (C := RX5) (T := TX5) (N := 6) hx hb hts ki5 hown hK hP 1 rfl rfl 5 (by decide) kf48 (fun _ h9 => h9) rfl dX4_takeAll_24 ?_
          refine lv_ldc2 (v := 6385252) hx hb hown kc165 dX4_takeAll_27 ?_
          refine W.lcmp hx hb dX4_takeAll_30 ?_
          refine lv_if_ne (tgt := 86) hx hb dX4_takeAll_31 (by decide) (fun cz => ?_) (fun cz => ?_)
          · have h := g_f h (fun z => cz (lg_cmp0.mpr z))
            refine lv_iload_n hx hb dX4_takeAll_86 rfl (lv_at hl 2 rfl) ?_
            have h' := Option.some.inj h
            rw [← hQQ]
            exact W.iret (v := v2) hx hb hr (fun t ht hW => ⟨⟨v2, (), rfl, by rw [← h'], by rw [← hWQ, ← h', ht]; exact hP, va_K.moved hW.alike hK⟩, hS.F ht⟩) hS.2.2 dX4_takeAll_87
          · have h := g_t h (lg_cmp0.mp cz)
            refine lv_aload_n hx hb dX4_takeAll_34 rfl (lv_at hl 0 rfl) ?_
            obtain ⟨q35, e35, h⟩ := g_b h
            refine callVis (cc := cX4_takeAll) (w1 := zzR ad cy (ad 3) (ad 10) (us x_iR [(3, q35.2.1), (4, q35.2.2.1)]) x_iT x_wT tx (us x_iB [(1, q35.2.2.2)]) x_lB aB x_iC x_aC) (As := []) (rest := []) ⟨hx, hb, hml, hown, hts⟩ (c_R_countConcept l dC dI cy ad H.size x_iR x_iT x_wT tx x_iB x_lB aB x_iC x_aC q35 e35) (cwV 0 hts (goodV m_ml_X4_153 m_im_X4_countConcept m_se_X4_countConcept m_in_X4 m_cd_X4_countConcept) rfl rfl rfl (by decide +kernel) ⟨(show 2 + 1 ≤ fo + 3 by omega), (show 8 + (1 + 11) + (43) ≤ lo + 74 by omega)⟩) hN hK hP hD hS hA rfl 0 rfl rfl rfl hl.1 rfl (Nat.le_of_ble_eq_true rfl) dX4_takeAll_35 ⟨Nat.zero_le _, Nat.zero_le _⟩ (fun H locs hP hD hS => ?_)
            refine lv_if_ne (tgt := 43) hx hb dX4_takeAll_38 (by decide) (fun cz => ?_) (fun cz => ?_)
            · have h := g_f h cz
              refine lv_aload_n hx hb dX4_takeAll_43 rfl (lv_at hl 0 rfl) ?_
              refine va_get (D := (dC, dI)) (ci := 4) (v := .ref (ad 1)) (C := RX4) (T := TX4) (N := 5) hx hb hts ki4 hown hK hP 0 rfl rfl 0 (by decide) kf20 (fun _ h9 => h9) rfl dX4_takeAll_44 ?_
              obtain ⟨q47, e47, h⟩ := g_b h
              refine callVv (cc := cX4_takeAll) (ws' := zzR ad cy (ad 3) (ad 10) (us x_iR [(3, q35.2.1), (4, q35.2.2.1)]) (us x_iT [(2, q47.1), (3, q47.2.1), (4, q47.2.2.1)]) q47.2.2.2 tx (us x_iB [(1, q35.2.2.2)]) x_lB aB x_iC x_aC) (As := []) (rest := []) ⟨hx, hb, hml, hown, hts⟩ (c_T_step l dC dI cy (fun i => ad (i + 1)) H.size N x_iT x_wT tx q47 e47) (cwV 0 hts (goodV m_ml_X4_87 m_im_X5_step m_se_X5_step m_in_X5 m_cd_X5_step) rfl rfl rfl (by decide +kernel) ⟨(show 2 + 1 ≤ fo + 3 by omega), (show 8 + (1 + 11) + (42) ≤ lo + 74 by omega)⟩) hN hK hP hD hS hA [1, 2] [none, some 0, some 1, none, none, none, none, none, none, none, none, none, none, none, none, none, none, none, none] rfl rfl rfl rfl rfl rfl 1 rfl rfl rfl hl.1 rfl (Nat.le_of_ble_eq_true rfl) dX4_takeAll_47 ⟨Nat.zero_le _, Nat.zero_le _⟩ (fun H locs hP hD hS => ?_)
              refine lv_aload_n hx hb dX4_takeAll_50 rfl (lv_at hl 0 rfl) ?_
              refine lv_iload_n hx hb dX4_takeAll_51 rfl (lv_at hl 1 rfl) ?_
              obtain ⟨q52, e52, h⟩ := g_b h
              refine callVis (cc := cX4_takeAll) (w1 := zzR ad cy (ad 3) (ad 10) q52.2.1 q52.2.2.1 q52.2.2.2.1 tx q52.2.2.2.2.1 q52.2.2.2.2.2.1 aB q52.2.2.2.2.2.2.1 q52.2.2.2.2.2.2.2) (As := [.int v1]) (rest := []) ⟨hx, hb, hml, hown, hts⟩ (hone H.size v1 ((us x_iR [(3, q35.2.1), (4, q35.2.2.1)])) ((us x_iT [(2, q47.1), (3, q47.2.1), (4, q47.2.2.1)])) q47.2.2.2 tx ((us x_iB [(1, q35.2.2.2)])) x_lB aB x_iC x_aC q52 e52) (cwV 1 hts (goodV m_ml_X4_162 m_im_X4_takeOne m_se_X4_takeOne m_in_X4 m_cd_X4_takeOne) rfl rfl rfl (by decide +kernel) ⟨(show fo + 0 + 1 ≤ fo + 3 by omega), (show 8 + (6 + 11) + (lo + 0) ≤ lo + 74 by omega)⟩) hN hK hP hD hS hA rfl 0 rfl rfl rfl hl.1 rfl (Nat.le_of_ble_eq_true rfl) dX4_takeAll_52 ⟨Nat.zero_le _, Nat.zero_le _⟩ (fun H locs hP hD hS => ?_)
              refine lv_istore (lv' := [(4, .int q52.1), (0, .ref (ad 0)), (1, .int v1), (2, .int v2), (3, .int v3)]) hx hb dX4_takeAll_55 hl (by decide) rfl (fun ls hl => ?_)
              refine lv_iload hx hb dX4_takeAll_57 (lv_at hl 0 rfl) ?_
              refine lv_iconst (v := (-1)) hx hb dX4_takeAll_59 (by decide) ?_
              refine lv_icmp_ne (tgt := 67) hx hb dX4_takeAll_60 (by decide) (fun cz => ?_) (fun cz => ?_)
              · have h := g_f h cz
                refine lv_aload_n hx hb dX4_takeAll_67 rfl (lv_at hl 1 rfl) ?_
                refine va_get (D := (dC, dI)) (ci := 4) (v := .ref (ad 10)) (C := RX4) (T := TX4) (N := 5) hx hb hts ki4 hown hK hP 0 rfl rfl 2 (by decide) kf34 (fun _ h9 => h9) rfl dX4_takeAll_68 ?_
                refine lv_bipush (v := 6) hx hb dX4_takeAll_71 (by decide) ?_
                refine lv_iload_n hx hb dX4_takeAll_73 rfl (lv_at hl 3 rfl) ?_
                refine lv_iload hx hb dX4_takeAll_74 (lv_at hl 0 rfl) ?_
                obtain ⟨q76, e76, h⟩ := g_b h
                refine callVi (cc := cX4_takeAll) (ws' := zzR ad cy (ad 3) (ad 10) q52.2.1 q52.2.2.1 q52.2.2.2.1 tx q52.2.2.2.2.1 q52.2.2.2.2.2.1 aB (us q52.2.2.2.2.2.2.1 [(4, q76.2.1), (9, q76.2.2.1)]) (us q52.2.2.2.2.2.2.2 [(0, q76.2.2.2.1), (1, q76.2.2.2.2.1), (2, q76.2.2.2.2.2.1), (3, q76.2.2.2.2.2.2.1), (5, q76.2.2.2.2.2.2.2.1), (6, q76.2.2.2.2.2.2.2.2.1), (7, q76.2.2.2.2.2.2.2.2.2.1), (8, q76.2.2.2.2.2.2.2.2.2.2)])) (As := [.int ((6 : Int32)), .int v2, .int q52.1]) (rest := []) ⟨hx, hb, hml, hown, hts⟩ (c_C_make l dC dI cy (fun i => ad (i + 10)) H.size N ((6 : Int32)) v2 q52.1 q52.2.2.2.2.2.2.1 q52.2.2.2.2.2.2.2 q76 e76) (cwV 3 hts (goodV m_ml_X4_156 m_im_X1_make m_se_X1_make m_in_X1 m_cd_X1_make) rfl rfl rfl (by decide +kernel) ⟨(show 2 + 1 ≤ fo + 3 by omega), (show 8 + (7 + 11) + (48) ≤ lo + 74 by omega)⟩) hN hK hP hD hS hA [10, 11, 12, 13, 14, 15, 16, 17, 18] [none, none, none, none, none, none, none, none, none, none, some 0, some 1, some 2, some 3, some 4, some 5, some 6, some 7, some 8] rfl rfl rfl rfl rfl rfl 10 rfl rfl rfl hl.1 rfl (Nat.le_of_ble_eq_true rfl) dX4_takeAll_76 ⟨Nat.zero_le _, Nat.zero_le _⟩ (fun H locs hP hD hS => ?_)
                refine lv_istore_n (lv' := [(2, .int q76.1), (4, .int q52.1), (0, .ref (ad 0)), (1, .int v1), (3, .int v3)]) hx hb dX4_takeAll_79 rfl hl (by decide) rfl (fun ls hl => ?_)
                refine lv_iinc (v := (v3 + (1 : Int32))) (lv' := [(3, .int ((v3 + (1 : Int32)))), (2, .int q76.1), (4, .int q52.1), (0, .ref (ad 0)), (1, .int v1)]) hx hb dX4_takeAll_80 hl (k := 4) rfl rfl (by decide) rfl (fun ls hl => ?_)
                refine lv_goto (tgt := 8) hx hb dX4_takeAll_83 (by decide) ?_
                exact ih v1 q76.1 ((v3 + (1 : Int32))) q52.2.1 q52.2.2.1 q52.2.2.2.1 q52.2.2.2.2.1 q52.2.2.2.2.2.1 ((us q52.2.2.2.2.2.2.1 [(4, q76.2.1), (9, q76.2.2.1)])) ((us q52.2.2.2.2.2.2.2 [(0, q76.2.2.2.1), (1, q76.2.2.2.2.1), (2, q76.2.2.2.2.2.1), (3, q76.2.2.2.2.2.2.1), (5, q76.2.2.2.2.2.2.2.1), (6, q76.2.2.2.2.2.2.2.2.1), (7, q76.2.2.2.2.2.2.2.2.2.1), (8, q76.2.2.2.2.2.2.2.2.2.2)])) H locs ls h hP hD hS (lv_sub hl [3, 4, 1, 0] rfl)
              · have h := g_t h cz
                refine lv_iconst (v := (-1)) hx hb dX4_takeAll_63 (by decide) ?_
                refine lv_goto (tgt := 79) hx hb dX4_takeAll_64 (by decide) ?_
                refine lv_istore_n (lv' := [(2, .int ((-1 : Int32))), (4, .int q52.1), (0, .ref (ad 0)), (1, .int v1), (3, .int v3)]) hx hb dX4_takeAll_79 rfl hl (by decide) rfl (fun ls hl => ?_)
                refine lv_iinc (v := (v3 + (1 : Int32))) (lv' := [(3, .int ((v3 + (1 : Int32)))), (2, .int ((-1 : Int32))), (4, .int q52.1), (0, .ref (ad 0)), (1, .int v1)]) hx hb dX4_takeAll_80 hl (k := 4) rfl rfl (by decide) rfl (fun ls hl => ?_)
                refine lv_goto (tgt := 8) hx hb dX4_takeAll_83 (by decide) ?_
                exact ih v1 ((-1 : Int32)) ((v3 + (1 : Int32))) q52.2.1 q52.2.2.1 q52.2.2.2.1 q52.2.2.2.2.1 q52.2.2.2.2.2.1 q52.2.2.2.2.2.2.1 q52.2.2.2.2.2.2.2 H locs ls h hP hD hS (lv_sub hl [3, 4, 1, 0] rfl)
            · have h := g_t h cz
              refine lv_iconst (v := (-1)) hx hb dX4_takeAll_41 (by decide) ?_
              have h' := Option.some.inj h
              rw [← hQQ]
              exact W.iret (v := (-1 : Int32)) hx hb hr (fun t ht hW => ⟨⟨(-1 : Int32), (), rfl, by rw [← h'], by rw [← hWQ, ← h', ht]; exact hP, va_K.moved hW.alike hK⟩, hS.F ht⟩) hS.2.2 dX4_takeAll_42
  intro H locs hP hD hS
  unfold f_R_takeAll at h
  refine lv_aload_n hx hb dX4_takeAll_0 rfl (lv_at hl 0 rfl) ?_
  refine lv_iload_n hx hb dX4_takeAll_1 rfl (lv_at hl 1 rfl) ?_
  obtain ⟨q2, e2, h⟩ := g_b h
  refine callVis (cc := cX4_takeAll) (w1 := zzR ad cy (ad 3) (ad 10) q2.2.1 q2.2.2.1 q2.2.2.2.1 tx q2.2.2.2.2.1 q2.2.2.2.2.2.1 aB q2.2.2.2.2.2.2.1 q2.2.2.2.2.2.2.2) (As := [.int a1]) (rest := []) ⟨hx, hb, hml, hown, hts⟩ (hone H.size a1 iR iT wT tx iB lB aB iC aC q2 e2) (cwV 1 hts (goodV m_ml_X4_162 m_im_X4_takeOne m_se_X4_takeOne m_in_X4 m_cd_X4_takeOne) rfl rfl rfl (by decide +kernel) ⟨(show fo + 0 + 1 ≤ fo + 3 by omega), (show 8 + (6 + 11) + (lo + 0) ≤ lo + 74 by omega)⟩) hN hK hP hD hS hA rfl 0 rfl rfl rfl hl.1 rfl (Nat.le_of_ble_eq_true rfl) dX4_takeAll_2 ⟨Nat.zero_le _, Nat.zero_le _⟩ (fun H locs hP hD hS => ?_)
  refine lv_istore_n (lv' := [(2, .int q2.1), (0, .ref (ad 0)), (1, .int a1)]) hx hb dX4_takeAll_5 rfl hl (by decide) rfl (fun ls hl => ?_)
  refine lv_iconst (v := 0) hx hb dX4_takeAll_6 (by decide) ?_
  refine lv_istore_n (lv' := [(3, .int ((0 : Int32))), (2, .int q2.1), (0, .ref (ad 0)), (1, .int a1)]) hx hb dX4_takeAll_7 rfl hl (by decide) rfl (fun ls hl => ?_)
  exact B8 N a1 q2.1 ((0 : Int32)) q2.2.1 q2.2.2.1 q2.2.2.2.1 q2.2.2.2.2.1 q2.2.2.2.2.2.1 q2.2.2.2.2.2.2.1 q2.2.2.2.2.2.2.2 H locs ls h hP hD hS (lv_sub hl [2, 3, 1, 0] rfl)
