set_option maxHeartbeats 8000000 in
set_option maxRecDepth 100000 in
theorem c_B_addQuestion (l : Launch) (dC : Nat → ClassId) (dI : Nat → Nat → Nat) (cy : Nat → ClassId) (ad : Nat → Nat) (sz : Nat) (a1 : Int32) (iB : Nat → Int32) (lB : Nat → Nat → Int64) (aB : Nat → Nat → Int32) (iC : Nat → Int32) (aC : Nat → Nat → Int32) (q : Int32 × Int32 × (Nat → Int32) × (Nat → Int32)) (h : f_B_addQuestion a1 (iB 7) (iB 11) (aB 6) (aB 10) = some q) : Met l yX0_addQuestion wsX0_addQuestion ({ frames := 1, cells := 0, slots := 0, locals := 24 } : Room) (cP (dC, dI) cy [.ref (ad 0), .int a1] (zzB ad cy iB lB aB iC aC) sz) (cQv (dC, dI) cy (zzB ad cy (us iB [(7, q.1), (11, q.2.1)]) lB (us aB [(6, q.2.2.1), (10, q.2.2.2)]) iC aC) (va_A (zzB ad cy iB lB aB iC aC) sz)) 0 0 (va_A (zzB ad cy iB lB aB iC aC) sz) := by
  refine Met.ofW (cc := cX0_addQuestion) (maxL := 2) (ret := none) (by decide) rfl ?_
  intro p e s m args below meth c s₁ B hml hv
  obtain ⟨hav, hsz, hP, hK, hD0, hN⟩ := hv
  have hx := B.exec
  have hb := B.bytes
  have hr := B.returns
  have hts := atoms_spec (ws := wsX0_addQuestion) B.pre
  have hown : s.vm.findClass RX0 = some m.cls := findClass_of_methodNamed B.named
  have hlocks := B.notSynchronized
  subst hsz
  have hD := hD0.self (sz := s.heap.size)
  generalize hAe : va_A (zzB ad cy iB lB aB iC aC) s.heap.size = A at hD ⊢
  have hA : ∀ q : Nat, s.heap.size ≤ q → A q := fun q h => by rw [← hAe]; exact Or.inr h
  have hS : va_S A s.heap s.heap [] := va_S.rf
  generalize hWQ : (zzB ad cy (us iB [(7, q.1), (11, q.2.1)]) lB (us aB [(6, q.2.2.1), (10, q.2.2.2)]) iC aC) = WQ
  generalize hQQ : MQ below (cQv (dC, dI) cy WQ A) args s 0 0 A = QQ
  have hl := lv_entry ([.ref (ad 0), .int a1] : List Value) (n := 2) (Nat.le_of_ble_eq_true rfl)
  have hfr := lg_entry_eq m ([.ref (ad 0), .int a1] : List Value) 2
  rw [← hav] at hfr
  rw [hfr]
  clear hfr hav
  generalize (lg_sl ([.ref (ad 0), .int a1] : List Value) ++ List.replicate (2 - (lg_sl ([.ref (ad 0), .int a1] : List Value)).length) Slot.unset).toArray = ls at hl ⊢
  have hl : lv_has ls 2 [(0, .ref (ad 0)), (1, .int a1)] := hl
  have kf57 := hts _ (List.mem_cons_of_mem _ m_fl_X0_57)
  have ki0 := (fun w h => List.mem_cons_of_mem _ (i_X0 w h) : ∀ w ∈ u_ws RX0 TX0 15, w ∈ wsX0_addQuestion)
  have kf32 := hts _ (List.mem_cons_of_mem _ m_fl_X0_32)
  refine (?_ : ∀ (H : Heap) (locs : List Loc), va_P (dC, dI) vwCl (zzB ad cy iB lB aB iC aC) H → va_D A (zzB ad cy iB lB aB iC aC) → va_S A s.heap H locs → W p l e ({ frames := 1, cells := 0, slots := 0, locals := 24 } : Room) s m args below meth c H locs 0 0 QQ (F0 m 0 ls [])) s.heap [] hP hD hS
  clear hP hD hS
  intro H locs hP hD hS
  unfold f_B_addQuestion at h
  refine lv_aload_n hx hb dX0_addQuestion_0 rfl (lv_at hl 0 rfl) ?_
  refine va_get (D := (dC, dI)) (ci := 0) (v := .int (iB 11)) (C := RX0) (T := TX0) (N := 15) hx hb hts ki0 hown hK hP 0 rfl rfl 11 (by decide) kf57 (fun _ h9 => h9) rfl dX0_addQuestion_1 ?_
  refine lv_bipush (v := 12) hx hb dX0_addQuestion_4 (by decide) ?_
  refine lv_icmp_ge (tgt := 37) hx hb dX0_addQuestion_6 (by decide) (fun cz => ?_) (fun cz => ?_)
  · have h := g_t h cz
    have h' := Option.some.inj h
    rw [← hQQ]
    exact W.vret hx hb hr (fun t ht hW => ⟨⟨(), rfl, trivial, by rw [← hWQ, ← h', ht]; exact hP, va_K.moved hW.alike hK⟩, hS.F ht⟩) hS.2.2 dX0_addQuestion_37
  · have h := g_f h cz
    refine lv_aload_n hx hb dX0_addQuestion_9 rfl (lv_at hl 0 rfl) ?_
    refine va_get (D := (dC, dI)) (ci := 0) (v := .ref (ad 5)) (C := RX0) (T := TX0) (N := 15) hx hb hts ki0 hown hK hP 0 rfl rfl 10 (by decide) kf32 (fun _ h9 => h9) rfl dX0_addQuestion_10 ?_
    refine lv_aload_n hx hb dX0_addQuestion_13 rfl (lv_at hl 0 rfl) ?_
    refine va_get (D := (dC, dI)) (ci := 0) (v := .int (iB 11)) (C := RX0) (T := TX0) (N := 15) hx hb hts ki0 hown hK hP 0 rfl rfl 11 (by decide) kf57 (fun _ h9 => h9) rfl dX0_addQuestion_14 ?_
    refine lv_iload_n hx hb dX0_addQuestion_17 rfl (lv_at hl 1 rfl) ?_
    obtain ⟨g_18, h⟩ := g_n h
    refine va_iast (f := (aB 10)) hx hb hK hP hD hS 5 0 rfl rfl g_18 dX0_addQuestion_18 (fun H locs hP hD hS => ?_)
    have hP : va_P (dC, dI) vwCl (zzB ad cy iB lB (us aB [(10, (upd (aB 10) (iB 11).toNatClampNeg a1))]) iC aC) H := Eq.mp (congrArg (fun w => va_P (dC, dI) vwCl w H) (sfB_aB10 ad cy iB lB aB iC aC ((upd (aB 10) (iB 11).toNatClampNeg a1)))) hP
    have hD : va_D A (zzB ad cy iB lB (us aB [(10, (upd (aB 10) (iB 11).toNatClampNeg a1))]) iC aC) := Eq.mp (congrArg (fun w => va_D A w) (sfB_aB10 ad cy iB lB aB iC aC ((upd (aB 10) (iB 11).toNatClampNeg a1)))) hD
    refine lv_aload_n hx hb dX0_addQuestion_19 rfl (lv_at hl 0 rfl) ?_
    refine lv_dup hx hb dX0_addQuestion_20 rfl ?_
    refine va_get (D := (dC, dI)) (ci := 0) (v := .int (iB 11)) (C := RX0) (T := TX0) (N := 15) hx hb hts ki0 hown hK hP 0 rfl rfl 11 (by decide) kf57 (fun _ h9 => h9) rfl dX0_addQuestion_21 ?_
    refine lv_iconst (v := 1) hx hb dX0_addQuestion_24 (by decide) ?_
    refine lv_iadd hx hb dX0_addQuestion_25 ?_
    refine va_put (D := (dC, dI)) (ci := 0) (v := .int (((iB 11) + (1 : Int32)))) (ty := .int) (C := RX0) (T := TX0) (N := 15) hx hb hts ki0 tyX0 tyX0_ok nmX0 hown hK hP hD hS 0 rfl rfl 11 (by decide) kf57 (fun _ h9 => h9) rfl (by decide +kernel) rfl rfl (Nat.le_of_ble_eq_true rfl) dX0_addQuestion_26 (fun H locs hP hD hS => ?_)
    have hP : va_P (dC, dI) vwCl (zzB ad cy (us iB [(11, ((iB 11) + (1 : Int32)))]) lB (us aB [(10, (upd (aB 10) (iB 11).toNatClampNeg a1))]) iC aC) H := Eq.mp (congrArg (fun w => va_P (dC, dI) vwCl w H) (sfB_iB11 ad cy iB lB (us aB [(10, (upd (aB 10) (iB 11).toNatClampNeg a1))]) iC aC (((iB 11) + (1 : Int32))))) hP
    have hD : va_D A (zzB ad cy (us iB [(11, ((iB 11) + (1 : Int32)))]) lB (us aB [(10, (upd (aB 10) (iB 11).toNatClampNeg a1))]) iC aC) := Eq.mp (congrArg (fun w => va_D A w) (sfB_iB11 ad cy iB lB (us aB [(10, (upd (aB 10) (iB 11).toNatClampNeg a1))]) iC aC (((iB 11) + (1 : Int32))))) hD
    refine lv_aload_n hx hb dX0_addQuestion_29 rfl (lv_at hl 0 rfl) ?_
    refine lv_iconst (v := 2) hx hb dX0_addQuestion_30 (by decide) ?_
    refine lv_iload_n hx hb dX0_addQuestion_31 rfl (lv_at hl 1 rfl) ?_
    refine lv_iconst (v := 0) hx hb dX0_addQuestion_32 (by decide) ?_
    obtain ⟨q33, e33, h⟩ := g_b h
    refine callVis (cc := cX0_addQuestion) (w1 := zzB ad cy (us iB [(7, q33.2.1), (11, ((iB 11) + (1 : Int32)))]) lB (us aB [(6, q33.2.2), (10, (upd (aB 10) (iB 11).toNatClampNeg a1))]) iC aC) (As := [.int ((2 : Int32)), .int a1, .int ((0 : Int32))]) (rest := []) ⟨hx, hb, hml, hown, hts⟩ (c_B_addStatement l dC dI cy ad H.size ((2 : Int32)) a1 ((0 : Int32)) ((us iB [(11, ((iB 11) + (1 : Int32)))])) lB ((us aB [(10, (upd (aB 10) (iB 11).toNatClampNeg a1))])) iC aC q33 e33) (cwV 3 hts (goodV m_ml_X0_70 m_im_X0_addStatement m_se_X0_addStatement m_in_X0 m_cd_X0_addStatement) rfl rfl rfl (by decide +kernel) ⟨Nat.le_of_ble_eq_true rfl, Nat.le_of_ble_eq_true rfl⟩) hN hK hP hD hS hA rfl 0 rfl rfl rfl hl.1 rfl (Nat.le_of_ble_eq_true rfl) dX0_addQuestion_33 ⟨Nat.zero_le _, Nat.zero_le _⟩ (fun H locs hP hD hS => ?_)
    refine lv_pop hx hb dX0_addQuestion_36 rfl ?_
    have h' := Option.some.inj h
    rw [← hQQ]
    exact W.vret hx hb hr (fun t ht hW => ⟨⟨(), rfl, trivial, by rw [← hWQ, ← h', ht]; exact hP, va_K.moved hW.alike hK⟩, hS.F ht⟩) hS.2.2 dX0_addQuestion_37
set_option maxHeartbeats 8000000 in
set_option maxRecDepth 100000 in
theorem c_R_takeQuestion (l : Launch) (dC : Nat → ClassId) (dI : Nat → Nat → Nat) (cy : Nat → ClassId) (ad : Nat → Nat) (sz : Nat) (N : Nat) (iR : Nat → Int32) (iT : Nat → Int32) (wT : Int64) (tx : Nat → Int32) (iB : Nat → Int32) (lB : Nat → Nat → Int64) (aB : Nat → Nat → Int32) (iC : Nat → Int32) (aC : Nat → Nat → Int32) (q : (Nat → Int32) × (Nat → Int32) × Int64 × (Nat → Int32) × (Nat → Nat → Int64) × (Nat → Nat → Int32) × (Nat → Int32) × (Nat → Nat → Int32)) (h : f_R_takeQuestion N iR iT wT tx iB lB aB iC aC = some q) : Met l yX4_takeQuestion wsX4_takeQuestion ({ frames := 89, cells := 0, slots := 0, locals := 2138 } : Room) (cP (dC, dI) cy [.ref (ad 0)] (zzR ad cy (ad 3) (ad 10) iR iT wT tx iB lB aB iC aC) sz) (cQv (dC, dI) cy (zzR ad cy (ad 3) (ad 10) q.1 q.2.1 q.2.2.1 tx q.2.2.2.1 q.2.2.2.2.1 q.2.2.2.2.2.1 q.2.2.2.2.2.2.1 q.2.2.2.2.2.2.2) (va_A (zzR ad cy (ad 3) (ad 10) iR iT wT tx iB lB aB iC aC) sz)) 0 0 (va_A (zzR ad cy (ad 3) (ad 10) iR iT wT tx iB lB aB iC aC) sz) := by
  refine Met.ofW (cc := cX4_takeQuestion) (maxL := 2) (ret := none) (by decide) rfl ?_
  intro p e s m args below meth c s₁ B hml hv
  obtain ⟨hav, hsz, hP, hK, hD0, hN⟩ := hv
  have hx := B.exec
  have hb := B.bytes
  have hr := B.returns
  have hts := atoms_spec (ws := wsX4_takeQuestion) B.pre
  have hown : s.vm.findClass RX4 = some m.cls := findClass_of_methodNamed B.named
  have hlocks := B.notSynchronized
  subst hsz
  have hD := hD0.self (sz := s.heap.size)
  generalize hAe : va_A (zzR ad cy (ad 3) (ad 10) iR iT wT tx iB lB aB iC aC) s.heap.size = A at hD ⊢
  have hA : ∀ q : Nat, s.heap.size ≤ q → A q := fun q h => by rw [← hAe]; exact Or.inr h
  have hS : va_S A s.heap s.heap [] := va_S.rf
  generalize hWQ : (zzR ad cy (ad 3) (ad 10) q.1 q.2.1 q.2.2.1 tx q.2.2.2.1 q.2.2.2.2.1 q.2.2.2.2.2.1 q.2.2.2.2.2.2.1 q.2.2.2.2.2.2.2) = WQ
  generalize hQQ : MQ below (cQv (dC, dI) cy WQ A) args s 0 0 A = QQ
  have hl := lv_entry ([.ref (ad 0)] : List Value) (n := 2) (Nat.le_of_ble_eq_true rfl)
  have hfr := lg_entry_eq m ([.ref (ad 0)] : List Value) 2
  rw [← hav] at hfr
  rw [hfr]
  clear hfr hav
  generalize (lg_sl ([.ref (ad 0)] : List Value) ++ List.replicate (2 - (lg_sl ([.ref (ad 0)] : List Value)).length) Slot.unset).toArray = ls at hl ⊢
  have hl : lv_has ls 2 [(0, .ref (ad 0))] := hl
  have kf24 := hts _ (List.mem_cons_of_mem _ m_fl_X4_24)
  have ki4 := (fun w h => List.mem_cons_of_mem _ (i_X4 w h) : ∀ w ∈ u_ws RX4 TX4 5, w ∈ wsX4_takeQuestion)
  have kf111 := hts _ (List.mem_cons_of_mem _ m_fl_X4_111)
  have ki0 := (fun w h => List.mem_cons_of_mem _ (i_X0 w h) : ∀ w ∈ u_ws RX0 TX0 15, w ∈ wsX4_takeQuestion)
  have kf20 := hts _ (List.mem_cons_of_mem _ m_fl_X4_20)
  refine (?_ : ∀ (H : Heap) (locs : List Loc), va_P (dC, dI) vwCl (zzR ad cy (ad 3) (ad 10) iR iT wT tx iB lB aB iC aC) H → va_D A (zzR ad cy (ad 3) (ad 10) iR iT wT tx iB lB aB iC aC) → va_S A s.heap H locs → W p l e ({ frames := 89, cells := 0, slots := 0, locals := 2138 } : Room) s m args below meth c H locs 0 0 QQ (F0 m 0 ls [])) s.heap [] hP hD hS
  clear hP hD hS
  intro H locs hP hD hS
  unfold f_R_takeQuestion at h
  refine lv_aload_n hx hb dX4_takeQuestion_0 rfl (lv_at hl 0 rfl) ?_
  refine va_get (D := (dC, dI)) (ci := 4) (v := .ref (ad 3)) (C := RX4) (T := TX4) (N := 5) hx hb hts ki4 hown hK hP 0 rfl rfl 1 (by decide) kf24 (fun _ h9 => h9) rfl dX4_takeQuestion_1 ?_
  refine va_get (D := (dC, dI)) (ci := 0) (v := .int ((iB 11))) (C := RX0) (T := TX0) (N := 15) hx hb hts ki0 hown hK hP 3 rfl rfl 11 (by decide) kf111 (fun _ h9 => h9) rfl dX4_takeQuestion_4 ?_
  refine lv_bipush (v := 12) hx hb dX4_takeQuestion_7 (by decide) ?_
  refine lv_icmp_lt (tgt := 19) hx hb dX4_takeQuestion_9 (by decide) (fun cz => ?_) (fun cz => ?_)
  · have h := g_t h cz
    refine lv_aload_n hx hb dX4_takeQuestion_19 rfl (lv_at hl 0 rfl) ?_
    refine va_get (D := (dC, dI)) (ci := 4) (v := .ref (ad 1)) (C := RX4) (T := TX4) (N := 5) hx hb hts ki4 hown hK hP 0 rfl rfl 0 (by decide) kf20 (fun _ h9 => h9) rfl dX4_takeQuestion_20 ?_
    obtain ⟨q23, e23, h⟩ := g_b h
    refine callVv (cc := cX4_takeQuestion) (ws' := zzR ad cy (ad 3) (ad 10) iR (us iT [(2, q23.1), (3, q23.2.1), (4, q23.2.2.1)]) q23.2.2.2 tx iB lB aB iC aC) (As := []) (rest := []) ⟨hx, hb, hml, hown, hts⟩ (c_T_step l dC dI cy (fun i => ad (i + 1)) H.size N iT wT tx q23 e23) (cwV 0 hts (goodV m_ml_X4_87 m_im_X5_step m_se_X5_step m_in_X5 m_cd_X5_step) rfl rfl rfl (by decide +kernel) ⟨Nat.le_of_ble_eq_true rfl, Nat.le_of_ble_eq_true rfl⟩) hN hK hP hD hS hA [1, 2] [none, some 0, some 1, none, none, none, none, none, none, none, none, none, none, none, none, none, none, none, none] rfl rfl rfl rfl rfl rfl 1 rfl rfl rfl hl.1 rfl (Nat.le_of_ble_eq_true rfl) dX4_takeQuestion_23 ⟨Nat.zero_le _, Nat.zero_le _⟩ (fun H locs hP hD hS => ?_)
    refine lv_aload_n hx hb dX4_takeQuestion_26 rfl (lv_at hl 0 rfl) ?_
    refine lv_iconst (v := 0) hx hb dX4_takeQuestion_27 (by decide) ?_
    obtain ⟨q28, e28, h⟩ := g_b h
    refine callVis (cc := cX4_takeQuestion) (w1 := zzR ad cy (ad 3) (ad 10) q28.2.1 q28.2.2.1 q28.2.2.2.1 tx q28.2.2.2.2.1 q28.2.2.2.2.2.1 aB q28.2.2.2.2.2.2.1 q28.2.2.2.2.2.2.2) (As := [.int ((0 : Int32))]) (rest := []) ⟨hx, hb, hml, hown, hts⟩ (c_R_takeConcept l dC dI cy ad H.size N 84 2016 (f_R_takeOne N 14) (fun sz a1 iR iT wT tx iB lB aB iC aC q h => c_R_takeOne l dC dI cy ad sz N 14 a1 iR iT wT tx iB lB aB iC aC q h) ((0 : Int32)) iR ((us iT [(2, q23.1), (3, q23.2.1), (4, q23.2.2.1)])) q23.2.2.2 tx iB lB aB iC aC q28 e28) (cwV 1 hts (goodV m_ml_X4_97 m_im_X4_takeConcept m_se_X4_takeConcept m_in_X4 m_cd_X4_takeConcept) rfl rfl rfl (by decide +kernel) ⟨Nat.le_of_ble_eq_true rfl, Nat.le_of_ble_eq_true rfl⟩) hN hK hP hD hS hA rfl 0 rfl rfl rfl hl.1 rfl (Nat.le_of_ble_eq_true rfl) dX4_takeQuestion_28 ⟨Nat.zero_le _, Nat.zero_le _⟩ (fun H locs hP hD hS => ?_)
    refine lv_istore_n (lv' := [(1, .int q28.1), (0, .ref (ad 0))]) hx hb dX4_takeQuestion_31 rfl hl (by decide) rfl (fun ls hl => ?_)
    refine lv_iload_n hx hb dX4_takeQuestion_32 rfl (lv_at hl 0 rfl) ?_
    refine lv_iconst (v := (-1)) hx hb dX4_takeQuestion_33 (by decide) ?_
    refine lv_icmp_eq (tgt := 52) hx hb dX4_takeQuestion_34 (by decide) (fun cz => ?_) (fun cz => ?_)
    · have h := g_t h cz
      have h' := Option.some.inj h
      rw [← hQQ]
      exact W.vret hx hb hr (fun t ht hW => ⟨⟨(), rfl, trivial, by rw [← hWQ, ← h', ht]; exact hP, va_K.moved hW.alike hK⟩, hS.F ht⟩) hS.2.2 dX4_takeQuestion_52
    · have h := g_f h cz
      refine lv_aload_n hx hb dX4_takeQuestion_37 rfl (lv_at hl 1 rfl) ?_
      obtain ⟨q38, e38, h⟩ := g_b h
      refine callVis (cc := cX4_takeQuestion) (w1 := zzR ad cy (ad 3) (ad 10) (us q28.2.1 [(3, q38.2.1), (4, q38.2.2.1)]) (us q28.2.2.1 [(2, q38.2.2.2.1), (3, q38.2.2.2.2.1), (4, q38.2.2.2.2.2.1)]) q38.2.2.2.2.2.2 tx q28.2.2.2.2.1 q28.2.2.2.2.2.1 aB q28.2.2.2.2.2.2.1 q28.2.2.2.2.2.2.2) (As := []) (rest := []) ⟨hx, hb, hml, hown, hts⟩ (c_R_takeEnd l dC dI cy ad H.size N q28.2.1 q28.2.2.1 q28.2.2.2.1 tx q28.2.2.2.2.1 q28.2.2.2.2.2.1 aB q28.2.2.2.2.2.2.1 q28.2.2.2.2.2.2.2 q38 e38) (cwV 0 hts (goodV m_ml_X4_104 m_im_X4_takeEnd m_se_X4_takeEnd m_in_X4 m_cd_X4_takeEnd) rfl rfl rfl (by decide +kernel) ⟨Nat.le_of_ble_eq_true rfl, Nat.le_of_ble_eq_true rfl⟩) hN hK hP hD hS hA rfl 0 rfl rfl rfl hl.1 rfl (Nat.le_of_ble_eq_true rfl) dX4_takeQuestion_38 ⟨Nat.zero_le _, Nat.zero_le _⟩ (fun H locs hP hD hS => ?_)
      refine lv_if_eq (tgt := 52) hx hb dX4_takeQuestion_41 (by decide) (fun cz => ?_) (fun cz => ?_)
      · have h := g_t h cz
        have h' := Option.some.inj h
        rw [← hQQ]
        exact W.vret hx hb hr (fun t ht hW => ⟨⟨(), rfl, trivial, by rw [← hWQ, ← h', ht]; exact hP, va_K.moved hW.alike hK⟩, hS.F ht⟩) hS.2.2 dX4_takeQuestion_52
      · have h := g_f h cz
        refine lv_aload_n hx hb dX4_takeQuestion_44 rfl (lv_at hl 1 rfl) ?_
        refine va_get (D := (dC, dI)) (ci := 4) (v := .ref (ad 3)) (C := RX4) (T := TX4) (N := 5) hx hb hts ki4 hown hK hP 0 rfl rfl 1 (by decide) kf24 (fun _ h9 => h9) rfl dX4_takeQuestion_45 ?_
        refine lv_iload_n hx hb dX4_takeQuestion_48 rfl (lv_at hl 0 rfl) ?_
        obtain ⟨q49, e49, h⟩ := g_b h
        refine callVv (cc := cX4_takeQuestion) (ws' := zzR ad cy (ad 3) (ad 10) (us q28.2.1 [(3, q38.2.1), (4, q38.2.2.1)]) (us q28.2.2.1 [(2, q38.2.2.2.1), (3, q38.2.2.2.2.1), (4, q38.2.2.2.2.2.1)]) q38.2.2.2.2.2.2 tx (us q28.2.2.2.2.1 [(7, q49.1), (11, q49.2.1)]) q28.2.2.2.2.2.1 (us aB [(6, q49.2.2.1), (10, q49.2.2.2)]) q28.2.2.2.2.2.2.1 q28.2.2.2.2.2.2.2) (As := [.int q28.1]) (rest := []) ⟨hx, hb, hml, hown, hts⟩ (c_B_addQuestion l dC dI cy (fun i => ad (i + 3)) H.size q28.1 q28.2.2.2.2.1 q28.2.2.2.2.2.1 aB q28.2.2.2.2.2.2.1 q28.2.2.2.2.2.2.2 q49 e49) (cwV 1 hts (goodV m_ml_X4_114 m_im_X0_addQuestion m_se_X0_addQuestion m_in_X0 m_cd_X0_addQuestion) rfl rfl rfl (by decide +kernel) ⟨Nat.le_of_ble_eq_true rfl, Nat.le_of_ble_eq_true rfl⟩) hN hK hP hD hS hA [3, 4, 5, 6, 7, 8, 9, 10, 11, 12, 13, 14, 15, 16, 17, 18] [none, none, none, some 0, some 1, some 2, some 3, some 4, some 5, some 6, some 7, some 8, some 9, some 10, some 11, some 12, some 13, some 14, some 15] rfl rfl rfl rfl rfl rfl 3 rfl rfl rfl hl.1 rfl (Nat.le_of_ble_eq_true rfl) dX4_takeQuestion_49 ⟨Nat.zero_le _, Nat.zero_le _⟩ (fun H locs hP hD hS => ?_)
        have h' := Option.some.inj h
        rw [← hQQ]
        exact W.vret hx hb hr (fun t ht hW => ⟨⟨(), rfl, trivial, by rw [← hWQ, ← h', ht]; exact hP, va_K.moved hW.alike hK⟩, hS.F ht⟩) hS.2.2 dX4_takeQuestion_52
  · have h := g_f h cz
    refine lv_aload_n hx hb dX4_takeQuestion_12 rfl (lv_at hl 0 rfl) ?_
    refine lv_iconst (v := 3) hx hb dX4_takeQuestion_13 (by decide) ?_
    obtain ⟨q14, e14, h⟩ := g_b h
    refine callVis (cc := cX4_takeQuestion) (w1 := zzR ad cy (ad 3) (ad 10) (us iR [(3, q14.2.1), (4, q14.2.2)]) iT wT tx iB lB aB iC aC) (As := [.int ((3 : Int32))]) (rest := []) ⟨hx, hb, hml, hown, hts⟩ (c_R_failHere l dC dI cy ad H.size ((3 : Int32)) iR iT wT tx iB lB aB iC aC q14 e14) (cwV 1 hts (goodV m_ml_X4_77 m_im_X4_failHere m_se_X4_failHere m_in_X4 m_cd_X4_failHere) rfl rfl rfl (by decide +kernel) ⟨Nat.le_of_ble_eq_true rfl, Nat.le_of_ble_eq_true rfl⟩) hN hK hP hD hS hA rfl 0 rfl rfl rfl hl.1 rfl (Nat.le_of_ble_eq_true rfl) dX4_takeQuestion_14 ⟨Nat.zero_le _, Nat.zero_le _⟩ (fun H locs hP hD hS => ?_)
    refine lv_pop hx hb dX4_takeQuestion_17 rfl ?_
    have h' := Option.some.inj h
    rw [← hQQ]
    exact W.vret hx hb hr (fun t ht hW => ⟨⟨(), rfl, trivial, by rw [← hWQ, ← h', ht]; exact hP, va_K.moved hW.alike hK⟩, hS.F ht⟩) hS.2.2 dX4_takeQuestion_18
set_option maxHeartbeats 8000000 in
set_option maxRecDepth 100000 in
theorem c_R_takeIn (l : Launch) (dC : Nat → ClassId) (dI : Nat → Nat → Nat) (cy : Nat → ClassId) (ad : Nat → Nat) (sz : Nat) (rb : Nat) (rc : Nat) (N : Nat) (a1 : Int32) (iR : Nat → Int32) (iT : Nat → Int32) (wT : Int64) (tx : Nat → Int32) (iB : Nat → Int32) (lB : Nat → Nat → Int64) (aB : Nat → Nat → Int32) (iC : Nat → Int32) (aC : Nat → Nat → Int32) (q : Int32 × (Nat → Int32) × (Nat → Int32) × Int64 × (Nat → Int32) × (Nat → Nat → Int64) × (Nat → Nat → Int32) × (Nat → Int32) × (Nat → Nat → Int32)) (h : f_R_takeIn N a1 iR iT wT tx iB lB aB iC aC = some q) : Met l yX4_takeIn wsX4_takeIn ({ frames := 90, cells := 0, slots := 0, locals := 2161 } : Room) (cP (dC, dI) cy [.ref (ad 0), .int a1, .ref (ad 3)] (zzR ad cy rb rc iR iT wT tx iB lB aB iC aC) sz) (cQi (dC, dI) cy q.1 (zzR ad cy (ad 3) (ad 10) q.2.1 q.2.2.1 q.2.2.2.1 tx q.2.2.2.2.1 q.2.2.2.2.2.1 q.2.2.2.2.2.2.1 q.2.2.2.2.2.2.2.1 q.2.2.2.2.2.2.2.2) (va_A (zzR ad cy rb rc iR iT wT tx iB lB aB iC aC) sz)) 0 0 (va_A (zzR ad cy rb rc iR iT wT tx iB lB aB iC aC) sz) := by
  refine Met.ofW (cc := cX4_takeIn) (maxL := 4) (ret := (some .boolean)) (by decide) rfl ?_
  intro p e s m args below meth c s₁ B hml hv
  obtain ⟨hav, hsz, hP, hK, hD0, hN⟩ := hv
  have hx := B.exec
  have hb := B.bytes
  have hr := B.returns
  have hts := atoms_spec (ws := wsX4_takeIn) B.pre
  have hown : s.vm.findClass RX4 = some m.cls := findClass_of_methodNamed B.named
  have hlocks := B.notSynchronized
  subst hsz
  have hD := hD0.self (sz := s.heap.size)
  generalize hAe : va_A (zzR ad cy rb rc iR iT wT tx iB lB aB iC aC) s.heap.size = A at hD ⊢
  have hA : ∀ q : Nat, s.heap.size ≤ q → A q := fun q h => by rw [← hAe]; exact Or.inr h
  have hS : va_S A s.heap s.heap [] := va_S.rf
  generalize hWQ : (zzR ad cy (ad 3) (ad 10) q.2.1 q.2.2.1 q.2.2.2.1 tx q.2.2.2.2.1 q.2.2.2.2.2.1 q.2.2.2.2.2.2.1 q.2.2.2.2.2.2.2.1 q.2.2.2.2.2.2.2.2) = WQ
  generalize hQQ : MQ below (cQi (dC, dI) cy q.1 WQ A) args s 0 0 A = QQ
  have hl := lv_entry ([.ref (ad 0), .int a1, .ref (ad 3)] : List Value) (n := 4) (Nat.le_of_ble_eq_true rfl)
  have hfr := lg_entry_eq m ([.ref (ad 0), .int a1, .ref (ad 3)] : List Value) 4
  rw [← hav] at hfr
  rw [hfr]
  clear hfr hav
  generalize (lg_sl ([.ref (ad 0), .int a1, .ref (ad 3)] : List Value) ++ List.replicate (4 - (lg_sl ([.ref (ad 0), .int a1, .ref (ad 3)] : List Value)).length) Slot.unset).toArray = ls at hl ⊢
  have hl : lv_has ls 4 [(0, .ref (ad 0)), (1, .int a1), (2, .ref (ad 3))] := hl
  have kf38 := hts _ (List.mem_cons_of_mem _ m_fl_X4_38)
  have ki4 := (fun w h => List.mem_cons_of_mem _ (i_X4 w h) : ∀ w ∈ u_ws RX4 TX4 5, w ∈ wsX4_takeIn)
  have kf20 := hts _ (List.mem_cons_of_mem _ m_fl_X4_20)
  have kf45 := hts _ (List.mem_cons_of_mem _ m_fl_X4_45)
  have ki5 := (fun w h => List.mem_cons_of_mem _ (i_X5 w h) : ∀ w ∈ u_ws RX5 TX5 6, w ∈ wsX4_takeIn)
  have kf48 := hts _ (List.mem_cons_of_mem _ m_fl_X4_48)
  have kc52 := hts _ (List.mem_cons_of_mem _ m_kl_X4_52)
  have kc57 := hts _ (List.mem_cons_of_mem _ m_kl_X4_57)
  have kc62 := hts _ (List.mem_cons_of_mem _ m_kl_X4_62)
  have kf24 := hts _ (List.mem_cons_of_mem _ m_fl_X4_24)
  have kf28 := hts _ (List.mem_cons_of_mem _ m_fl_X4_28)
  have ki0 := (fun w h => List.mem_cons_of_mem _ (i_X0 w h) : ∀ w ∈ u_ws RX0 TX0 15, w ∈ wsX4_takeIn)
  have kf34 := hts _ (List.mem_cons_of_mem _ m_fl_X4_34)
  have kf9 := hts _ (List.mem_cons_of_mem _ m_fl_X4_9)
  refine (?_ : ∀ (H : Heap) (locs : List Loc), va_P (dC, dI) vwCl (zzR ad cy rb rc iR iT wT tx iB lB aB iC aC) H → va_D A (zzR ad cy rb rc iR iT wT tx iB lB aB iC aC) → va_S A s.heap H locs → W p l e ({ frames := 90, cells := 0, slots := 0, locals := 2161 } : Room) s m args below meth c H locs 0 0 QQ (F0 m 0 ls [])) s.heap [] hP hD hS
  clear hP hD hS
  have B136 : ∀ (x_iR : Nat → Int32) (x_iT : Nat → Int32) (x_wT : Int64) (x_iB : Nat → Int32) (x_lB : Nat → Nat → Int64) (x_aB : Nat → Nat → Int32) (x_iC : Nat → Int32) (x_aC : Nat → Nat → Int32) (H : Heap) (locs : List Loc) (ls : Array Slot), f_R_takeIn_136 N iR iT wT tx iB lB aB iC aC x_iR x_iT x_wT x_iB x_lB x_aB x_iC x_aC = some q → va_P (dC, dI) vwCl (zzR ad cy (ad 3) (ad 10) x_iR x_iT x_wT tx x_iB x_lB x_aB x_iC x_aC) H → va_D A (zzR ad cy (ad 3) (ad 10) x_iR x_iT x_wT tx x_iB x_lB x_aB x_iC x_aC) → va_S A s.heap H locs → lv_has ls 4 [(0, .ref (ad 0))] → W p l e ({ frames := 90, cells := 0, slots := 0, locals := 2161 } : Room) s m args below meth c H locs 0 0 QQ (F0 m 136 ls []) := by
    intro x_iR x_iT x_wT x_iB x_lB x_aB x_iC x_aC H locs ls h hP hD hS hl
    unfold f_R_takeIn_136 at h
    refine lv_aload_n hx hb dX4_takeIn_136 rfl (lv_at hl 0 rfl) ?_
    refine va_get (D := (dC, dI)) (ci := 4) (v := .int ((x_iR 3))) (C := RX4) (T := TX4) (N := 5) hx hb hts ki4 hown hK hP 0 rfl rfl 3 (by decide) kf38 (fun _ h9 => h9) rfl dX4_takeIn_137 ?_
    refine lv_if_ne (tgt := 147) hx hb dX4_takeIn_140 (by decide) (fun cz => ?_) (fun cz => ?_)
    · have h := g_f h cz
      refine lv_iconst (v := 0) hx hb dX4_takeIn_147 (by decide) ?_
      have h' := Option.some.inj h
      rw [← hQQ]
      exact W.zret (v := (0 : Int32)) hx hb hr rfl (fun t ht hW => ⟨⟨(0 : Int32), (), rfl, by rw [← h'], by rw [← hWQ, ← h', ht]; exact hP, va_K.moved hW.alike hK⟩, hS.F ht⟩) hS.2.2 dX4_takeIn_148
    · have h := g_t h cz
      refine lv_iconst (v := 1) hx hb dX4_takeIn_143 (by decide) ?_
      refine lv_goto (tgt := 148) hx hb dX4_takeIn_144 (by decide) ?_
      have h' := Option.some.inj h
      rw [← hQQ]
      exact W.zret (v := (1 : Int32)) hx hb hr rfl (fun t ht hW => ⟨⟨(1 : Int32), (), rfl, by rw [← h'], by rw [← hWQ, ← h', ht]; exact hP, va_K.moved hW.alike hK⟩, hS.F ht⟩) hS.2.2 dX4_takeIn_148
  have B40 : ∀ (n : Nat) (v1 : Int32) (v3 : Int32) (x_iR : Nat → Int32) (x_iT : Nat → Int32) (x_wT : Int64) (x_iB : Nat → Int32) (x_lB : Nat → Nat → Int64) (x_aB : Nat → Nat → Int32) (x_iC : Nat → Int32) (x_aC : Nat → Nat → Int32) (H : Heap) (locs : List Loc) (ls : Array Slot), f_R_takeIn_40 N iR iT wT tx iB lB aB iC aC v1 n v3 x_iR x_iT x_wT x_iB x_lB x_aB x_iC x_aC = some q → va_P (dC, dI) vwCl (zzR ad cy (ad 3) (ad 10) x_iR x_iT x_wT tx x_iB x_lB x_aB x_iC x_aC) H → va_D A (zzR ad cy (ad 3) (ad 10) x_iR x_iT x_wT tx x_iB x_lB x_aB x_iC x_aC) → va_S A s.heap H locs → lv_has ls 4 [(0, .ref (ad 0)), (1, .int v1), (3, .int v3)] → W p l e ({ frames := 90, cells := 0, slots := 0, locals := 2161 } : Room) s m args below meth c H locs 0 0 QQ (F0 m 40 ls []) := by
    intro n
    induction n with
    | zero =>
      intro v1 v3 x_iR x_iT x_wT x_iB x_lB x_aB x_iC x_aC H locs ls h hP hD hS hl
      rw [f_R_takeIn_40] at h
      cases h
    | succ n ih =>
      intro v1 v3 x_iR x_iT x_wT x_iB x_lB x_aB x_iC x_aC H locs ls h hP hD hS hl
      rw [f_R_takeIn_40] at h
      refine lv_iload_n hx hb dX4_takeIn_40 rfl (lv_at hl 2 rfl) ?_
      refine lv_iload_n hx hb dX4_takeIn_41 rfl (lv_at hl 1 rfl) ?_
      refine lv_icmp_gt (tgt := 136) hx hb dX4_takeIn_42 (by decide) (fun cz => ?_) (fun cz => ?_)
      · have h := g_t h cz
        exact B136 x_iR x_iT x_wT x_iB x_lB x_aB x_iC x_aC H locs ls h hP hD hS (lv_sub hl [0] rfl)
      · have h := g_f h cz
        refine lv_aload_n hx hb dX4_takeIn_45 rfl (lv_at hl 0 rfl) ?_
        refine va_get (D := (dC, dI)) (ci := 4) (v := .int ((x_iR 3))) (C := RX4) (T := TX4) (N := 5) hx hb hts ki4 hown hK hP 0 rfl rfl 3 (by decide) kf38 (fun _ h9 => h9) rfl dX4_takeIn_46 ?_
        refine lv_if_ne (tgt := 136) hx hb dX4_takeIn_49 (by decide) (fun cz => ?_) (fun cz => ?_)
        · have h := g_f h cz
          exact B136 x_iR x_iT x_wT x_iB x_lB x_aB x_iC x_aC H locs ls h hP hD hS (lv_sub hl [0] rfl)
        · have h := g_t h cz
          refine lv_aload_n hx hb dX4_takeIn_52 rfl (lv_at hl 0 rfl) ?_
          refine va_get (D := (dC, dI)) (ci := 4) (v := .ref (ad 1)) (C := RX4) (T := TX4) (N := 5) hx hb hts ki4 hown hK hP 0 rfl rfl 0 (by decide) kf20 (fun _ h9 => h9) rfl dX4_takeIn_53 ?_
          refine va_get (D := (dC, dI)) (ci := 5) (v := .int ((x_iT 4))) (C := RX5) (T := TX5) (N := 6) hx hb hts ki5 hown hK hP 1 rfl rfl 4 (by decide) kf45 (fun _ h9 => h9) rfl dX4_takeIn_56 ?_
          refine lv_iconst (v := 1) hx hb dX4_takeIn_59 (by decide) ?_
          refine lv_icmp_eq (tgt := 136) hx hb dX4_takeIn_60 (by decide) (fun cz => ?_) (fun cz => ?_)
          · have h := g_t h cz
            exact B136 x_iR x_iT x_wT x_iB x_lB x_aB x_iC x_aC H locs ls h hP hD hS (lv_sub hl [0] rfl)
          · have h := g_f h cz
            refine lv_aload_n hx hb dX4_takeIn_63 rfl (lv_at hl 0 rfl) ?_
            refine va_get (D := (dC, dI)) (ci := 4) (v := .ref (ad 1)) (C := RX4) (T := TX4) (N := 5) hx hb hts ki4 hown hK hP 0 rfl rfl 0 (by decide) kf20 (fun _ h9 => h9) rfl dX4_takeIn_64 ?_
            refine va_get (D := (dC, dI)) (ci := 5) (v := .long x_wT) (C := RX5) (T := TX5) (N := 6) hx hb hts ki5 hown hK hP 1 rfl rfl 5 (by decide) kf48 (fun _ h9 => h9) rfl dX4_takeIn_67 ?_
            refine lv_ldc2 (v := 6386539) hx hb hown kc52 dX4_takeIn_70 ?_
            refine W.lcmp hx hb dX4_takeIn_73 ?_
            refine lv_if_ne (tgt := 84) hx hb dX4_takeIn_74 (by decide) (fun cz => ?_) (fun cz => ?_)
            · have h := g_f h (fun z => cz (lg_cmp0.mpr z))
              refine lv_aload_n hx hb dX4_takeIn_84 rfl (lv_at hl 0 rfl) ?_
              refine va_get (D := (dC, dI)) (ci := 4) (v := .ref (ad 1)) (C := RX4) (T := TX4) (N := 5) hx hb hts ki4 hown hK hP 0 rfl rfl 0 (by decide) kf20 (fun _ h9 => h9) rfl dX4_takeIn_85 ?_
              refine va_get (D := (dC, dI)) (ci := 5) (v := .long x_wT) (C := RX5) (T := TX5) (N := 6) hx hb hts ki5 hown hK hP 1 rfl rfl 5 (by decide) kf48 (fun _ h9 => h9) rfl dX4_takeIn_88 ?_
              refine lv_ldc2 (v := 504363246962) hx hb hown kc57 dX4_takeIn_91 ?_
              refine W.lcmp hx hb dX4_takeIn_94 ?_
              refine lv_if_ne (tgt := 105) hx hb dX4_takeIn_95 (by decide) (fun cz => ?_) (fun cz => ?_)
              · have h := g_f h (fun z => cz (lg_cmp0.mpr z))
                refine lv_aload_n hx hb dX4_takeIn_105 rfl (lv_at hl 0 rfl) ?_
                refine va_get (D := (dC, dI)) (ci := 4) (v := .ref (ad 1)) (C := RX4) (T := TX4) (N := 5) hx hb hts ki4 hown hK hP 0 rfl rfl 0 (by decide) kf20 (fun _ h9 => h9) rfl dX4_takeIn_106 ?_
                refine va_get (D := (dC, dI)) (ci := 5) (v := .long x_wT) (C := RX5) (T := TX5) (N := 6) hx hb hts ki5 hown hK hP 1 rfl rfl 5 (by decide) kf48 (fun _ h9 => h9) rfl dX4_takeIn_109 ?_
                refine lv_ldc2 (v := 126896661032037) hx hb hown kc62 dX4_takeIn_112 ?_
                refine W.lcmp hx hb dX4_takeIn_115 ?_
                refine lv_if_ne (tgt := 126) hx hb dX4_takeIn_116 (by decide) (fun cz => ?_) (fun cz => ?_)
                · have h := g_f h (fun z => cz (lg_cmp0.mpr z))
                  refine lv_aload_n hx hb dX4_takeIn_126 rfl (lv_at hl 0 rfl) ?_
                  obtain ⟨q127, e127, h⟩ := g_b h
                  refine callVvs (cc := cX4_takeIn) (w1 := zzR ad cy (ad 3) (ad 10) q127.1 q127.2.1 q127.2.2.1 tx q127.2.2.2.1 q127.2.2.2.2.1 q127.2.2.2.2.2.1 q127.2.2.2.2.2.2.1 q127.2.2.2.2.2.2.2) (As := []) (rest := []) ⟨hx, hb, hml, hown, hts⟩ (c_R_takeRule l dC dI cy ad H.size N x_iR x_iT x_wT tx x_iB x_lB x_aB x_iC x_aC q127 e127) (cwV 0 hts (goodV m_ml_X4_67 m_im_X4_takeRule m_se_X4_takeRule m_in_X4 m_cd_X4_takeRule) rfl rfl rfl (by decide +kernel) ⟨Nat.le_of_ble_eq_true rfl, Nat.le_of_ble_eq_true rfl⟩) hN hK hP hD hS hA rfl 0 rfl rfl rfl hl.1 rfl (Nat.le_of_ble_eq_true rfl) dX4_takeIn_127 ⟨Nat.zero_le _, Nat.zero_le _⟩ (fun H locs hP hD hS => ?_)
                  refine lv_iinc (v := (v3 + (1 : Int32))) (lv' := [(3, .int ((v3 + (1 : Int32)))), (0, .ref (ad 0)), (1, .int v1)]) hx hb dX4_takeIn_130 hl (k := 2) rfl rfl (by decide) rfl (fun ls hl => ?_)
                  refine lv_goto (tgt := 40) hx hb dX4_takeIn_133 (by decide) ?_
                  exact ih v1 ((v3 + (1 : Int32))) q127.1 q127.2.1 q127.2.2.1 q127.2.2.2.1 q127.2.2.2.2.1 q127.2.2.2.2.2.1 q127.2.2.2.2.2.2.1 q127.2.2.2.2.2.2.2 H locs ls h hP hD hS (lv_sub hl [1, 2, 0] rfl)
                · have h := g_t h (lg_cmp0.mp cz)
                  refine lv_aload_n hx hb dX4_takeIn_119 rfl (lv_at hl 0 rfl) ?_
                  obtain ⟨q120, e120, h⟩ := g_b h
                  refine callVvs (cc := cX4_takeIn) (w1 := zzR ad cy (ad 3) (ad 10) (us x_iR [(3, q120.1), (4, q120.2.1)]) (us x_iT [(2, q120.2.2.1), (3, q120.2.2.2.1), (4, q120.2.2.2.2.1)]) q120.2.2.2.2.2.1 tx (us x_iB [(5, q120.2.2.2.2.2.2.1), (7, q120.2.2.2.2.2.2.2.1), (13, q120.2.2.2.2.2.2.2.2.1)]) (us x_lB [(4, q120.2.2.2.2.2.2.2.2.2.1)]) (us x_aB [(6, q120.2.2.2.2.2.2.2.2.2.2)]) x_iC x_aC) (As := []) (rest := []) ⟨hx, hb, hml, hown, hts⟩ (c_R_takeSingle l dC dI cy ad H.size N x_iR x_iT x_wT tx x_iB x_lB x_aB x_iC x_aC q120 e120) (cwV 0 hts (goodV m_ml_X4_64 m_im_X4_takeSingle m_se_X4_takeSingle m_in_X4 m_cd_X4_takeSingle) rfl rfl rfl (by decide +kernel) ⟨Nat.le_of_ble_eq_true rfl, Nat.le_of_ble_eq_true rfl⟩) hN hK hP hD hS hA rfl 0 rfl rfl rfl hl.1 rfl (Nat.le_of_ble_eq_true rfl) dX4_takeIn_120 ⟨Nat.zero_le _, Nat.zero_le _⟩ (fun H locs hP hD hS => ?_)
                  refine lv_goto (tgt := 130) hx hb dX4_takeIn_123 (by decide) ?_
                  refine lv_iinc (v := (v3 + (1 : Int32))) (lv' := [(3, .int ((v3 + (1 : Int32)))), (0, .ref (ad 0)), (1, .int v1)]) hx hb dX4_takeIn_130 hl (k := 2) rfl rfl (by decide) rfl (fun ls hl => ?_)
                  refine lv_goto (tgt := 40) hx hb dX4_takeIn_133 (by decide) ?_
                  exact ih v1 ((v3 + (1 : Int32))) ((us x_iR [(3, q120.1), (4, q120.2.1)])) ((us x_iT [(2, q120.2.2.1), (3, q120.2.2.2.1), (4, q120.2.2.2.2.1)])) q120.2.2.2.2.2.1 ((us x_iB [(5, q120.2.2.2.2.2.2.1), (7, q120.2.2.2.2.2.2.2.1), (13, q120.2.2.2.2.2.2.2.2.1)])) ((us x_lB [(4, q120.2.2.2.2.2.2.2.2.2.1)])) ((us x_aB [(6, q120.2.2.2.2.2.2.2.2.2.2)])) x_iC x_aC H locs ls h hP hD hS (lv_sub hl [1, 2, 0] rfl)
              · have h := g_t h (lg_cmp0.mp cz)
                refine lv_aload_n hx hb dX4_takeIn_98 rfl (lv_at hl 0 rfl) ?_
                obtain ⟨q99, e99, h⟩ := g_b h
                refine callVvs (cc := cX4_takeIn) (w1 := zzR ad cy (ad 3) (ad 10) (us x_iR [(3, q99.1), (4, q99.2.1)]) (us x_iT [(2, q99.2.2.1), (3, q99.2.2.2.1), (4, q99.2.2.2.2.1)]) q99.2.2.2.2.2.1 tx (us x_iB [(5, q99.2.2.2.2.2.2.1), (7, q99.2.2.2.2.2.2.2.1), (14, q99.2.2.2.2.2.2.2.2.1)]) (us x_lB [(4, q99.2.2.2.2.2.2.2.2.2.1)]) (us x_aB [(6, q99.2.2.2.2.2.2.2.2.2.2.1), (12, q99.2.2.2.2.2.2.2.2.2.2.2)]) x_iC x_aC) (As := []) (rest := []) ⟨hx, hb, hml, hown, hts⟩ (c_R_takeOrder l dC dI cy ad H.size N x_iR x_iT x_wT tx x_iB x_lB x_aB x_iC x_aC q99 e99) (cwV 0 hts (goodV m_ml_X4_59 m_im_X4_takeOrder m_se_X4_takeOrder m_in_X4 m_cd_X4_takeOrder) rfl rfl rfl (by decide +kernel) ⟨Nat.le_of_ble_eq_true rfl, Nat.le_of_ble_eq_true rfl⟩) hN hK hP hD hS hA rfl 0 rfl rfl rfl hl.1 rfl (Nat.le_of_ble_eq_true rfl) dX4_takeIn_99 ⟨Nat.zero_le _, Nat.zero_le _⟩ (fun H locs hP hD hS => ?_)
                refine lv_goto (tgt := 130) hx hb dX4_takeIn_102 (by decide) ?_
                refine lv_iinc (v := (v3 + (1 : Int32))) (lv' := [(3, .int ((v3 + (1 : Int32)))), (0, .ref (ad 0)), (1, .int v1)]) hx hb dX4_takeIn_130 hl (k := 2) rfl rfl (by decide) rfl (fun ls hl => ?_)
                refine lv_goto (tgt := 40) hx hb dX4_takeIn_133 (by decide) ?_
                exact ih v1 ((v3 + (1 : Int32))) ((us x_iR [(3, q99.1), (4, q99.2.1)])) ((us x_iT [(2, q99.2.2.1), (3, q99.2.2.2.1), (4, q99.2.2.2.2.1)])) q99.2.2.2.2.2.1 ((us x_iB [(5, q99.2.2.2.2.2.2.1), (7, q99.2.2.2.2.2.2.2.1), (14, q99.2.2.2.2.2.2.2.2.1)])) ((us x_lB [(4, q99.2.2.2.2.2.2.2.2.2.1)])) ((us x_aB [(6, q99.2.2.2.2.2.2.2.2.2.2.1), (12, q99.2.2.2.2.2.2.2.2.2.2.2)])) x_iC x_aC H locs ls h hP hD hS (lv_sub hl [1, 2, 0] rfl)
            · have h := g_t h (lg_cmp0.mp cz)
              refine lv_aload_n hx hb dX4_takeIn_77 rfl (lv_at hl 0 rfl) ?_
              obtain ⟨q78, e78, h⟩ := g_b h
              refine callVvs (cc := cX4_takeIn) (w1 := zzR ad cy (ad 3) (ad 10) q78.1 q78.2.1 q78.2.2.1 tx q78.2.2.2.1 q78.2.2.2.2.1 q78.2.2.2.2.2.1 q78.2.2.2.2.2.2.1 q78.2.2.2.2.2.2.2) (As := []) (rest := []) ⟨hx, hb, hml, hown, hts⟩ (c_R_takeQuestion l dC dI cy ad H.size N x_iR x_iT x_wT tx x_iB x_lB x_aB x_iC x_aC q78 e78) (cwV 0 hts (goodV m_ml_X4_54 m_im_X4_takeQuestion m_se_X4_takeQuestion m_in_X4 m_cd_X4_takeQuestion) rfl rfl rfl (by decide +kernel) ⟨Nat.le_of_ble_eq_true rfl, Nat.le_of_ble_eq_true rfl⟩) hN hK hP hD hS hA rfl 0 rfl rfl rfl hl.1 rfl (Nat.le_of_ble_eq_true rfl) dX4_takeIn_78 ⟨Nat.zero_le _, Nat.zero_le _⟩ (fun H locs hP hD hS => ?_)
              refine lv_goto (tgt := 130) hx hb dX4_takeIn_81 (by decide) ?_
              refine lv_iinc (v := (v3 + (1 : Int32))) (lv' := [(3, .int ((v3 + (1 : Int32)))), (0, .ref (ad 0)), (1, .int v1)]) hx hb dX4_takeIn_130 hl (k := 2) rfl rfl (by decide) rfl (fun ls hl => ?_)
              refine lv_goto (tgt := 40) hx hb dX4_takeIn_133 (by decide) ?_
              exact ih v1 ((v3 + (1 : Int32))) q78.1 q78.2.1 q78.2.2.1 q78.2.2.2.1 q78.2.2.2.2.1 q78.2.2.2.2.2.1 q78.2.2.2.2.2.2.1 q78.2.2.2.2.2.2.2 H locs ls h hP hD hS (lv_sub hl [1, 2, 0] rfl)
  intro H locs hP hD hS
  unfold f_R_takeIn at h
  refine lv_aload_n hx hb dX4_takeIn_0 rfl (lv_at hl 0 rfl) ?_
  refine lv_aload_n hx hb dX4_takeIn_1 rfl (lv_at hl 2 rfl) ?_
  refine va_put (D := (dC, dI)) (ci := 4) (v := .ref (ad 3)) (ty := (.object "TypeCourt$Book")) (C := RX4) (T := TX4) (N := 5) hx hb hts ki4 tyX4 tyX4_ok nmX4 hown hK hP hD hS 0 rfl rfl 1 (by decide) kf24 (fun _ h9 => h9) rfl (by decide +kernel) rfl rfl (Nat.le_of_ble_eq_true rfl) dX4_takeIn_2 (fun H locs hP hD hS => ?_)
  have hP : va_P (dC, dI) vwCl (zzR ad cy (ad 3) rc iR iT wT tx iB lB aB iC aC) H := hP
  have hD : va_D A (zzR ad cy (ad 3) rc iR iT wT tx iB lB aB iC aC) := hD
  refine lv_aload_n hx hb dX4_takeIn_5 rfl (lv_at hl 0 rfl) ?_
  refine lv_aload_n hx hb dX4_takeIn_6 rfl (lv_at hl 2 rfl) ?_
  refine va_get (D := (dC, dI)) (ci := 0) (v := .ref (ad 10)) (C := RX0) (T := TX0) (N := 15) hx hb hts ki0 hown hK hP 3 rfl rfl 0 (by decide) kf28 (fun _ h9 => h9) rfl dX4_takeIn_7 ?_
  refine va_put (D := (dC, dI)) (ci := 4) (v := .ref (ad 10)) (ty := (.object "TypeCourt$Concepts")) (C := RX4) (T := TX4) (N := 5) hx hb hts ki4 tyX4 tyX4_ok nmX4 hown hK hP hD hS 0 rfl rfl 2 (by decide) kf34 (fun _ h9 => h9) rfl (by decide +kernel) rfl rfl (Nat.le_of_ble_eq_true rfl) dX4_takeIn_10 (fun H locs hP hD hS => ?_)
  have hP : va_P (dC, dI) vwCl (zzR ad cy (ad 3) (ad 10) iR iT wT tx iB lB aB iC aC) H := hP
  have hD : va_D A (zzR ad cy (ad 3) (ad 10) iR iT wT tx iB lB aB iC aC) := hD
  refine lv_aload_n hx hb dX4_takeIn_13 rfl (lv_at hl 0 rfl) ?_
  refine va_get (D := (dC, dI)) (ci := 4) (v := .ref (ad 3)) (C := RX4) (T := TX4) (N := 5) hx hb hts ki4 hown hK hP 0 rfl rfl 1 (by decide) kf24 (fun _ h9 => h9) rfl dX4_takeIn_14 ?_
  obtain ⟨q17, e17, h⟩ := g_b h
  refine callVv (cc := cX4_takeIn) (ws' := zzR ad cy (ad 3) (ad 10) iR iT wT tx (us iB [(1, q17.1), (3, q17.2.1), (5, q17.2.2.1), (7, q17.2.2.2.1), (9, q17.2.2.2.2.1), (11, q17.2.2.2.2.2.1), (13, q17.2.2.2.2.2.2.1), (14, q17.2.2.2.2.2.2.2.1)]) lB (us aB [(12, q17.2.2.2.2.2.2.2.2.1)]) (us iC [(4, q17.2.2.2.2.2.2.2.2.2.1), (9, q17.2.2.2.2.2.2.2.2.2.2)]) aC) (As := []) (rest := []) ⟨hx, hb, hml, hown, hts⟩ (c_B_clear l dC dI cy (fun i => ad (i + 3)) H.size N iB lB aB iC aC q17 e17) (cwV 0 hts (goodV m_ml_X4_35 m_im_X0_clear m_se_X0_clear m_in_X0 m_cd_X0_clear) rfl rfl rfl (by decide +kernel) ⟨Nat.le_of_ble_eq_true rfl, Nat.le_of_ble_eq_true rfl⟩) hN hK hP hD hS hA [3, 4, 5, 6, 7, 8, 9, 10, 11, 12, 13, 14, 15, 16, 17, 18] [none, none, none, some 0, some 1, some 2, some 3, some 4, some 5, some 6, some 7, some 8, some 9, some 10, some 11, some 12, some 13, some 14, some 15] rfl rfl rfl rfl rfl rfl 3 rfl rfl rfl hl.1 rfl (Nat.le_of_ble_eq_true rfl) dX4_takeIn_17 ⟨Nat.zero_le _, Nat.zero_le _⟩ (fun H locs hP hD hS => ?_)
  refine lv_aload_n hx hb dX4_takeIn_20 rfl (lv_at hl 0 rfl) ?_
  refine lv_iconst (v := 0) hx hb dX4_takeIn_21 (by decide) ?_
  refine va_put (D := (dC, dI)) (ci := 4) (v := .int ((0 : Int32))) (ty := .int) (C := RX4) (T := TX4) (N := 5) hx hb hts ki4 tyX4 tyX4_ok nmX4 hown hK hP hD hS 0 rfl rfl 3 (by decide) kf38 (fun _ h9 => h9) rfl (by decide +kernel) rfl rfl (Nat.le_of_ble_eq_true rfl) dX4_takeIn_22 (fun H locs hP hD hS => ?_)
  have hP : va_P (dC, dI) vwCl (zzR ad cy (ad 3) (ad 10) (us iR [(3, (0 : Int32))]) iT wT tx (us iB [(1, q17.1), (3, q17.2.1), (5, q17.2.2.1), (7, q17.2.2.2.1), (9, q17.2.2.2.2.1), (11, q17.2.2.2.2.2.1), (13, q17.2.2.2.2.2.2.1), (14, q17.2.2.2.2.2.2.2.1)]) lB (us aB [(12, q17.2.2.2.2.2.2.2.2.1)]) (us iC [(4, q17.2.2.2.2.2.2.2.2.2.1), (9, q17.2.2.2.2.2.2.2.2.2.2)]) aC) H := Eq.mp (congrArg (fun w => va_P (dC, dI) vwCl w H) (sfR_iR3 ad cy (ad 3) (ad 10) iR iT wT tx (us iB [(1, q17.1), (3, q17.2.1), (5, q17.2.2.1), (7, q17.2.2.2.1), (9, q17.2.2.2.2.1), (11, q17.2.2.2.2.2.1), (13, q17.2.2.2.2.2.2.1), (14, q17.2.2.2.2.2.2.2.1)]) lB (us aB [(12, q17.2.2.2.2.2.2.2.2.1)]) (us iC [(4, q17.2.2.2.2.2.2.2.2.2.1), (9, q17.2.2.2.2.2.2.2.2.2.2)]) aC ((0 : Int32)))) hP
  have hD : va_D A (zzR ad cy (ad 3) (ad 10) (us iR [(3, (0 : Int32))]) iT wT tx (us iB [(1, q17.1), (3, q17.2.1), (5, q17.2.2.1), (7, q17.2.2.2.1), (9, q17.2.2.2.2.1), (11, q17.2.2.2.2.2.1), (13, q17.2.2.2.2.2.2.1), (14, q17.2.2.2.2.2.2.2.1)]) lB (us aB [(12, q17.2.2.2.2.2.2.2.2.1)]) (us iC [(4, q17.2.2.2.2.2.2.2.2.2.1), (9, q17.2.2.2.2.2.2.2.2.2.2)]) aC) := Eq.mp (congrArg (fun w => va_D A w) (sfR_iR3 ad cy (ad 3) (ad 10) iR iT wT tx (us iB [(1, q17.1), (3, q17.2.1), (5, q17.2.2.1), (7, q17.2.2.2.1), (9, q17.2.2.2.2.1), (11, q17.2.2.2.2.2.1), (13, q17.2.2.2.2.2.2.1), (14, q17.2.2.2.2.2.2.2.1)]) lB (us aB [(12, q17.2.2.2.2.2.2.2.2.1)]) (us iC [(4, q17.2.2.2.2.2.2.2.2.2.1), (9, q17.2.2.2.2.2.2.2.2.2.2)]) aC ((0 : Int32)))) hD
  refine lv_aload_n hx hb dX4_takeIn_25 rfl (lv_at hl 0 rfl) ?_
  refine lv_iconst (v := (-1)) hx hb dX4_takeIn_26 (by decide) ?_
  refine va_put (D := (dC, dI)) (ci := 4) (v := .int ((-1 : Int32))) (ty := .int) (C := RX4) (T := TX4) (N := 5) hx hb hts ki4 tyX4 tyX4_ok nmX4 hown hK hP hD hS 0 rfl rfl 4 (by decide) kf9 (fun _ h9 => h9) rfl (by decide +kernel) rfl rfl (Nat.le_of_ble_eq_true rfl) dX4_takeIn_27 (fun H locs hP hD hS => ?_)
  have hP : va_P (dC, dI) vwCl (zzR ad cy (ad 3) (ad 10) (us iR [(3, (0 : Int32)), (4, (-1 : Int32))]) iT wT tx (us iB [(1, q17.1), (3, q17.2.1), (5, q17.2.2.1), (7, q17.2.2.2.1), (9, q17.2.2.2.2.1), (11, q17.2.2.2.2.2.1), (13, q17.2.2.2.2.2.2.1), (14, q17.2.2.2.2.2.2.2.1)]) lB (us aB [(12, q17.2.2.2.2.2.2.2.2.1)]) (us iC [(4, q17.2.2.2.2.2.2.2.2.2.1), (9, q17.2.2.2.2.2.2.2.2.2.2)]) aC) H := Eq.mp (congrArg (fun w => va_P (dC, dI) vwCl w H) (stR_iR4 ad cy (ad 3) (ad 10) iR iT wT tx (us iB [(1, q17.1), (3, q17.2.1), (5, q17.2.2.1), (7, q17.2.2.2.1), (9, q17.2.2.2.2.1), (11, q17.2.2.2.2.2.1), (13, q17.2.2.2.2.2.2.1), (14, q17.2.2.2.2.2.2.2.1)]) lB (us aB [(12, q17.2.2.2.2.2.2.2.2.1)]) (us iC [(4, q17.2.2.2.2.2.2.2.2.2.1), (9, q17.2.2.2.2.2.2.2.2.2.2)]) aC [(3, (0 : Int32))] ((-1 : Int32)))) hP
  have hD : va_D A (zzR ad cy (ad 3) (ad 10) (us iR [(3, (0 : Int32)), (4, (-1 : Int32))]) iT wT tx (us iB [(1, q17.1), (3, q17.2.1), (5, q17.2.2.1), (7, q17.2.2.2.1), (9, q17.2.2.2.2.1), (11, q17.2.2.2.2.2.1), (13, q17.2.2.2.2.2.2.1), (14, q17.2.2.2.2.2.2.2.1)]) lB (us aB [(12, q17.2.2.2.2.2.2.2.2.1)]) (us iC [(4, q17.2.2.2.2.2.2.2.2.2.1), (9, q17.2.2.2.2.2.2.2.2.2.2)]) aC) := Eq.mp (congrArg (fun w => va_D A w) (stR_iR4 ad cy (ad 3) (ad 10) iR iT wT tx (us iB [(1, q17.1), (3, q17.2.1), (5, q17.2.2.1), (7, q17.2.2.2.1), (9, q17.2.2.2.2.1), (11, q17.2.2.2.2.2.1), (13, q17.2.2.2.2.2.2.1), (14, q17.2.2.2.2.2.2.2.1)]) lB (us aB [(12, q17.2.2.2.2.2.2.2.2.1)]) (us iC [(4, q17.2.2.2.2.2.2.2.2.2.1), (9, q17.2.2.2.2.2.2.2.2.2.2)]) aC [(3, (0 : Int32))] ((-1 : Int32)))) hD
  refine lv_aload_n hx hb dX4_takeIn_30 rfl (lv_at hl 0 rfl) ?_
  refine va_get (D := (dC, dI)) (ci := 4) (v := .ref (ad 1)) (C := RX4) (T := TX4) (N := 5) hx hb hts ki4 hown hK hP 0 rfl rfl 0 (by decide) kf20 (fun _ h9 => h9) rfl dX4_takeIn_31 ?_
  refine lv_iload_n hx hb dX4_takeIn_34 rfl (lv_at hl 1 rfl) ?_
  obtain ⟨q35, e35, h⟩ := g_b h
  refine callVv (cc := cX4_takeIn) (ws' := zzR ad cy (ad 3) (ad 10) (us iR [(3, (0 : Int32)), (4, (-1 : Int32))]) (us iT [(1, q35.1), (2, q35.2.1), (3, q35.2.2.1), (4, q35.2.2.2.1)]) q35.2.2.2.2 tx (us iB [(1, q17.1), (3, q17.2.1), (5, q17.2.2.1), (7, q17.2.2.2.1), (9, q17.2.2.2.2.1), (11, q17.2.2.2.2.2.1), (13, q17.2.2.2.2.2.2.1), (14, q17.2.2.2.2.2.2.2.1)]) lB (us aB [(12, q17.2.2.2.2.2.2.2.2.1)]) (us iC [(4, q17.2.2.2.2.2.2.2.2.2.1), (9, q17.2.2.2.2.2.2.2.2.2.2)]) aC) (As := [.int a1]) (rest := []) ⟨hx, hb, hml, hown, hts⟩ (c_T_start l dC dI cy (fun i => ad (i + 1)) H.size N a1 iT wT tx q35 e35) (cwV 1 hts (goodV m_ml_X4_41 m_im_X5_start m_se_X5_start m_in_X5 m_cd_X5_start) rfl rfl rfl (by decide +kernel) ⟨Nat.le_of_ble_eq_true rfl, Nat.le_of_ble_eq_true rfl⟩) hN hK hP hD hS hA [1, 2] [none, some 0, some 1, none, none, none, none, none, none, none, none, none, none, none, none, none, none, none, none] rfl rfl rfl rfl rfl rfl 1 rfl rfl rfl hl.1 rfl (Nat.le_of_ble_eq_true rfl) dX4_takeIn_35 ⟨Nat.zero_le _, Nat.zero_le _⟩ (fun H locs hP hD hS => ?_)
  refine lv_iconst (v := 0) hx hb dX4_takeIn_38 (by decide) ?_
  refine lv_istore_n (lv' := [(3, .int ((0 : Int32))), (0, .ref (ad 0)), (1, .int a1), (2, .ref (ad 3))]) hx hb dX4_takeIn_39 rfl hl (by decide) rfl (fun ls hl => ?_)
  exact B40 N a1 ((0 : Int32)) ((us iR [(3, (0 : Int32)), (4, (-1 : Int32))])) ((us iT [(1, q35.1), (2, q35.2.1), (3, q35.2.2.1), (4, q35.2.2.2.1)])) q35.2.2.2.2 ((us iB [(1, q17.1), (3, q17.2.1), (5, q17.2.2.1), (7, q17.2.2.2.1), (9, q17.2.2.2.2.1), (11, q17.2.2.2.2.2.1), (13, q17.2.2.2.2.2.2.1), (14, q17.2.2.2.2.2.2.2.1)])) lB ((us aB [(12, q17.2.2.2.2.2.2.2.2.1)])) ((us iC [(4, q17.2.2.2.2.2.2.2.2.2.1), (9, q17.2.2.2.2.2.2.2.2.2.2)])) aC H locs ls h hP hD hS (lv_sub hl [1, 2, 0] rfl)
set_option maxHeartbeats 8000000 in
set_option maxRecDepth 100000 in
theorem c_C_roleOfAtom (l : Launch) (dC : Nat → ClassId) (dI : Nat → Nat → Nat) (cy : Nat → ClassId) (ad : Nat → Nat) (sz : Nat) (a1 : Int32) (iC : Nat → Int32) (aC : Nat → Nat → Int32) (q : Int32) (h : f_C_roleOfAtom a1 (iC 9) (aC 5) = some q) : Met l yX1_roleOfAtom wsX1_roleOfAtom ({ frames := 0, cells := 0, slots := 0, locals := 0 } : Room) (cP (dC, dI) cy [.ref (ad 0), .int a1] (zzC ad cy iC aC) sz) (cQi (dC, dI) cy q (zzC ad cy iC aC) (va_A (zzC ad cy iC aC) sz)) 0 0 (va_A (zzC ad cy iC aC) sz) := by
  refine Met.ofW (cc := cX1_roleOfAtom) (maxL := 2) (ret := (some .int)) (by decide) rfl ?_
  intro p e s m args below meth c s₁ B hml hv
  obtain ⟨hav, hsz, hP, hK, hD0, hN⟩ := hv
  have hx := B.exec
  have hb := B.bytes
  have hr := B.returns
  have hts := atoms_spec (ws := wsX1_roleOfAtom) B.pre
  have hown : s.vm.findClass RX1 = some m.cls := findClass_of_methodNamed B.named
  have hlocks := B.notSynchronized
  subst hsz
  have hD := hD0.self (sz := s.heap.size)
  generalize hAe : va_A (zzC ad cy iC aC) s.heap.size = A at hD ⊢
  have hA : ∀ q : Nat, s.heap.size ≤ q → A q := fun q h => by rw [← hAe]; exact Or.inr h
  have hS : va_S A s.heap s.heap [] := va_S.rf
  generalize hWQ : (zzC ad cy iC aC) = WQ
  generalize hQQ : MQ below (cQi (dC, dI) cy q WQ A) args s 0 0 A = QQ
  have hl := lv_entry ([.ref (ad 0), .int a1] : List Value) (n := 2) (Nat.le_of_ble_eq_true rfl)
  have hfr := lg_entry_eq m ([.ref (ad 0), .int a1] : List Value) 2
  rw [← hav] at hfr
  rw [hfr]
  clear hfr hav
  generalize (lg_sl ([.ref (ad 0), .int a1] : List Value) ++ List.replicate (2 - (lg_sl ([.ref (ad 0), .int a1] : List Value)).length) Slot.unset).toArray = ls at hl ⊢
  have hl : lv_has ls 2 [(0, .ref (ad 0)), (1, .int a1)] := hl
  have kf40 := hts _ (List.mem_cons_of_mem _ m_fl_X1_40)
  have ki1 := (fun w h => List.mem_cons_of_mem _ (i_X1 w h) : ∀ w ∈ u_ws RX1 TX1 10, w ∈ wsX1_roleOfAtom)
  have kf24 := hts _ (List.mem_cons_of_mem _ m_fl_X1_24)
  refine (?_ : ∀ (H : Heap) (locs : List Loc), va_P (dC, dI) vwCl (zzC ad cy iC aC) H → va_D A (zzC ad cy iC aC) → va_S A s.heap H locs → W p l e ({ frames := 0, cells := 0, slots := 0, locals := 0 } : Room) s m args below meth c H locs 0 0 QQ (F0 m 0 ls [])) s.heap [] hP hD hS
  clear hP hD hS
  intro H locs hP hD hS
  unfold f_C_roleOfAtom at h
  refine lv_iload_n hx hb dX1_roleOfAtom_0 rfl (lv_at hl 1 rfl) ?_
  refine lv_if_lt (tgt := 21) hx hb dX1_roleOfAtom_1 (by decide) (fun cz => ?_) (fun cz => ?_)
  · have h := g_t h cz
    refine lv_iconst (v := (-1)) hx hb dX1_roleOfAtom_21 (by decide) ?_
    have h' := Option.some.inj h
    rw [← hQQ]
    exact W.iret (v := (-1 : Int32)) hx hb hr (fun t ht hW => ⟨⟨(-1 : Int32), (), rfl, by rw [← h'], by rw [← hWQ, ht]; exact hP, va_K.moved hW.alike hK⟩, hS.F ht⟩) hS.2.2 dX1_roleOfAtom_22
  · have h := g_f h cz
    refine lv_iload_n hx hb dX1_roleOfAtom_4 rfl (lv_at hl 1 rfl) ?_
    refine lv_aload_n hx hb dX1_roleOfAtom_5 rfl (lv_at hl 0 rfl) ?_
    refine va_get (D := (dC, dI)) (ci := 1) (v := .int (iC 9)) (C := RX1) (T := TX1) (N := 10) hx hb hts ki1 hown hK hP 0 rfl rfl 9 (by decide) kf40 (fun _ h9 => h9) rfl dX1_roleOfAtom_6 ?_
    refine lv_icmp_ge (tgt := 21) hx hb dX1_roleOfAtom_9 (by decide) (fun cz => ?_) (fun cz => ?_)
    · have h := g_t h cz
      refine lv_iconst (v := (-1)) hx hb dX1_roleOfAtom_21 (by decide) ?_
      have h' := Option.some.inj h
      rw [← hQQ]
      exact W.iret (v := (-1 : Int32)) hx hb hr (fun t ht hW => ⟨⟨(-1 : Int32), (), rfl, by rw [← h'], by rw [← hWQ, ht]; exact hP, va_K.moved hW.alike hK⟩, hS.F ht⟩) hS.2.2 dX1_roleOfAtom_22
    · have h := g_f h cz
      refine lv_aload_n hx hb dX1_roleOfAtom_12 rfl (lv_at hl 0 rfl) ?_
      refine va_get (D := (dC, dI)) (ci := 1) (v := .ref (ad 5)) (C := RX1) (T := TX1) (N := 10) hx hb hts ki1 hown hK hP 0 rfl rfl 5 (by decide) kf24 (fun _ h9 => h9) rfl dX1_roleOfAtom_13 ?_
      refine lv_iload_n hx hb dX1_roleOfAtom_16 rfl (lv_at hl 1 rfl) ?_
      obtain ⟨g_19, h⟩ := g_n h
      refine va_iald (f := (aC 5)) hx hb hK hP 5 0 rfl rfl g_19 dX1_roleOfAtom_17 ?_
      refine lv_goto (tgt := 22) hx hb dX1_roleOfAtom_18 (by decide) ?_
      have h' := Option.some.inj h
      rw [← hQQ]
      exact W.iret (v := ((aC 5) a1.toNatClampNeg)) hx hb hr (fun t ht hW => ⟨⟨((aC 5) a1.toNatClampNeg), (), rfl, by rw [← h'], by rw [← hWQ, ht]; exact hP, va_K.moved hW.alike hK⟩, hS.F ht⟩) hS.2.2 dX1_roleOfAtom_22
set_option maxHeartbeats 8000000 in
set_option maxRecDepth 100000 in
theorem c_K_gatherAtoms (l : Launch) (dC : Nat → ClassId) (dI : Nat → Nat → Nat) (cy : Nat → ClassId) (ad : Nat → Nat) (sz : Nat) (N : Nat) (iK : Nat → Int32) (lK : Nat → Nat → Int64) (aK : Nat → Nat → Int32) (iB : Nat → Int32) (lB : Nat → Nat → Int64) (aB : Nat → Nat → Int32) (iC : Nat → Int32) (aC : Nat → Nat → Int32) (q : Int32 × (Nat → Int32) × (Nat → Int32)) (h : f_K_gatherAtoms N (aB 12) (iC 9) (aC 5) (iK 7) (aK 5) (aK 6) = some q) : Met l yX2_gatherAtoms wsX2_gatherAtoms ({ frames := 2, cells := 0, slots := 0, locals := 43 } : Room) (cP (dC, dI) cy [.ref (ad 0)] (zzK ad cy (ad 11) (ad 18) iK lK aK iB lB aB iC aC) sz) (cQv (dC, dI) cy (zzK ad cy (ad 11) (ad 18) (us iK [(7, q.1)]) lK (us aK [(5, q.2.1), (6, q.2.2)]) iB lB aB iC aC) (va_A (zzK ad cy (ad 11) (ad 18) iK lK aK iB lB aB iC aC) sz)) 0 0 (va_A (zzK ad cy (ad 11) (ad 18) iK lK aK iB lB aB iC aC) sz) := by
  refine Met.ofW (cc := cX2_gatherAtoms) (maxL := 4) (ret := none) (by decide) rfl ?_
  intro p e s m args below meth c s₁ B hml hv
  obtain ⟨hav, hsz, hP, hK, hD0, hN⟩ := hv
  have hx := B.exec
  have hb := B.bytes
  have hr := B.returns
  have hts := atoms_spec (ws := wsX2_gatherAtoms) B.pre
  have hown : s.vm.findClass RX2 = some m.cls := findClass_of_methodNamed B.named
  have hlocks := B.notSynchronized
  subst hsz
  have hD := hD0.self (sz := s.heap.size)
  generalize hAe : va_A (zzK ad cy (ad 11) (ad 18) iK lK aK iB lB aB iC aC) s.heap.size = A at hD ⊢
  have hA : ∀ q : Nat, s.heap.size ≤ q → A q := fun q h => by rw [← hAe]; exact Or.inr h
  have hS : va_S A s.heap s.heap [] := va_S.rf
  generalize hWQ : (zzK ad cy (ad 11) (ad 18) (us iK [(7, q.1)]) lK (us aK [(5, q.2.1), (6, q.2.2)]) iB lB aB iC aC) = WQ
  generalize hQQ : MQ below (cQv (dC, dI) cy WQ A) args s 0 0 A = QQ
  have hl := lv_entry ([.ref (ad 0)] : List Value) (n := 4) (Nat.le_of_ble_eq_true rfl)
  have hfr := lg_entry_eq m ([.ref (ad 0)] : List Value) 4
  rw [← hav] at hfr
  rw [hfr]
  clear hfr hav
  generalize (lg_sl ([.ref (ad 0)] : List Value) ++ List.replicate (4 - (lg_sl ([.ref (ad 0)] : List Value)).length) Slot.unset).toArray = ls at hl ⊢
  have hl : lv_has ls 4 [(0, .ref (ad 0))] := hl
  have kf22 := hts _ (List.mem_cons_of_mem _ m_fl_X2_22)
  have ki2 := (fun w h => List.mem_cons_of_mem _ (i_X2 w h) : ∀ w ∈ u_ws RX2 TX2 15, w ∈ wsX2_gatherAtoms)
  have kf44 := hts _ (List.mem_cons_of_mem _ m_fl_X2_44)
  have kf54 := hts _ (List.mem_cons_of_mem _ m_fl_X2_54)
  have kf55 := hts _ (List.mem_cons_of_mem _ m_fl_X2_55)
  have ki1 := (fun w h => List.mem_cons_of_mem _ (i_X1 w h) : ∀ w ∈ u_ws RX1 TX1 10, w ∈ wsX2_gatherAtoms)
  have kf144 := hts _ (List.mem_cons_of_mem _ m_fl_X2_144)
  have kf18 := hts _ (List.mem_cons_of_mem _ m_fl_X2_18)
  refine (?_ : ∀ (H : Heap) (locs : List Loc), va_P (dC, dI) vwCl (zzK ad cy (ad 11) (ad 18) iK lK aK iB lB aB iC aC) H → va_D A (zzK ad cy (ad 11) (ad 18) iK lK aK iB lB aB iC aC) → va_S A s.heap H locs → W p l e ({ frames := 2, cells := 0, slots := 0, locals := 43 } : Room) s m args below meth c H locs 0 0 QQ (F0 m 0 ls [])) s.heap [] hP hD hS
  clear hP hD hS
  have B87 : ∀ (v1 : Int32) (v2 : Int32) (x_iK7 : Int32) (x_aK5 : Nat → Int32) (x_aK6 : Nat → Int32) (k28 : Int32 → (Nat → Int32) → (Nat → Int32) → Option (Int32 × (Nat → Int32) × (Nat → Int32))) (hk28 : ∀ (v2' : Int32) (x_aK5' : Nat → Int32) (x_aK6' : Nat → Int32) (H : Heap) (locs : List Loc) (ls : Array Slot), k28 v2' x_aK5' x_aK6' = some q → va_P (dC, dI) vwCl (zzK ad cy (ad 11) (ad 18) (us iK [(7, x_iK7)]) lK (us aK [(5, x_aK5'), (6, x_aK6')]) iB lB aB iC aC) H → va_D A (zzK ad cy (ad 11) (ad 18) (us iK [(7, x_iK7)]) lK (us aK [(5, x_aK5'), (6, x_aK6')]) iB lB aB iC aC) → va_S A s.heap H locs → lv_has ls 4 [(0, .ref (ad 0)), (1, .int v1), (2, .int v2')] → W p l e ({ frames := 2, cells := 0, slots := 0, locals := 43 } : Room) s m args below meth c H locs 0 0 QQ (F0 m 28 ls [])) (H : Heap) (locs : List Loc) (ls : Array Slot), f_K_gatherAtoms_87 N (aB 12) (iC 9) (aC 5) (iK 7) (aK 5) (aK 6) k28 v1 v2 x_iK7 x_aK5 x_aK6 = some q → va_P (dC, dI) vwCl (zzK ad cy (ad 11) (ad 18) (us iK [(7, x_iK7)]) lK (us aK [(5, x_aK5), (6, x_aK6)]) iB lB aB iC aC) H → va_D A (zzK ad cy (ad 11) (ad 18) (us iK [(7, x_iK7)]) lK (us aK [(5, x_aK5), (6, x_aK6)]) iB lB aB iC aC) → va_S A s.heap H locs → lv_has ls 4 [(0, .ref (ad 0)), (1, .int v1), (2, .int v2)] → W p l e ({ frames := 2, cells := 0, slots := 0, locals := 43 } : Room) s m args below meth c H locs 0 0 QQ (F0 m 87 ls []) := by
    intro v1 v2 x_iK7 x_aK5 x_aK6 k28 hk28 H locs ls h hP hD hS hl
    unfold f_K_gatherAtoms_87 at h
    refine lv_aload_n hx hb dX2_gatherAtoms_87 rfl (lv_at hl 0 rfl) ?_
    refine va_get (D := (dC, dI)) (ci := 2) (v := .ref (ad 4)) (C := RX2) (T := TX2) (N := 15) hx hb hts ki2 hown hK hP 0 rfl rfl 6 (by decide) kf22 (fun _ h9 => h9) rfl dX2_gatherAtoms_88 ?_
    refine lv_iload_n hx hb dX2_gatherAtoms_91 rfl (lv_at hl 1 rfl) ?_
    refine lv_dup2_11 hx hb dX2_gatherAtoms_92 rfl rfl ?_
    obtain ⟨g_1, h⟩ := g_n h
    refine va_iald (f := x_aK6) hx hb hK hP 4 0 rfl rfl g_1 dX2_gatherAtoms_93 ?_
    refine lv_iconst (v := 1) hx hb dX2_gatherAtoms_94 (by decide) ?_
    refine lv_iload_n hx hb dX2_gatherAtoms_95 rfl (lv_at hl 2 rfl) ?_
    refine lv_ishl hx hb dX2_gatherAtoms_96 ?_
    refine lv_ior hx hb dX2_gatherAtoms_97 ?_
    refine va_iast (f := x_aK6) hx hb hK hP hD hS 4 0 rfl rfl g_1 dX2_gatherAtoms_98 (fun H locs hP hD hS => ?_)
    have hP : va_P (dC, dI) vwCl (zzK ad cy (ad 11) (ad 18) (us iK [(7, x_iK7)]) lK (us aK [(5, x_aK5), (6, (upd x_aK6 v1.toNatClampNeg (((x_aK6 v1.toNatClampNeg) ||| ((1 : Int32) <<< (v2 &&& 31))))))]) iB lB aB iC aC) H := Eq.mp (congrArg (fun w => va_P (dC, dI) vwCl w H) (stK_aK6 ad cy (ad 11) (ad 18) (us iK [(7, x_iK7)]) lK aK iB lB aB iC aC [(5, x_aK5), (6, x_aK6)] ((upd x_aK6 v1.toNatClampNeg (((x_aK6 v1.toNatClampNeg) ||| ((1 : Int32) <<< (v2 &&& 31)))))))) hP
    have hD : va_D A (zzK ad cy (ad 11) (ad 18) (us iK [(7, x_iK7)]) lK (us aK [(5, x_aK5), (6, (upd x_aK6 v1.toNatClampNeg (((x_aK6 v1.toNatClampNeg) ||| ((1 : Int32) <<< (v2 &&& 31))))))]) iB lB aB iC aC) := Eq.mp (congrArg (fun w => va_D A w) (stK_aK6 ad cy (ad 11) (ad 18) (us iK [(7, x_iK7)]) lK aK iB lB aB iC aC [(5, x_aK5), (6, x_aK6)] ((upd x_aK6 v1.toNatClampNeg (((x_aK6 v1.toNatClampNeg) ||| ((1 : Int32) <<< (v2 &&& 31)))))))) hD
    refine lv_iinc (v := (v2 + (1 : Int32))) (lv' := [(2, .int ((v2 + (1 : Int32)))), (0, .ref (ad 0)), (1, .int v1)]) hx hb dX2_gatherAtoms_99 hl (k := 2) rfl rfl (by decide) rfl (fun ls hl => ?_)
    refine lv_goto (tgt := 28) hx hb dX2_gatherAtoms_102 (by decide) ?_
    exact hk28 ((v2 + (1 : Int32))) x_aK5 ((upd x_aK6 v1.toNatClampNeg (((x_aK6 v1.toNatClampNeg) ||| ((1 : Int32) <<< (v2 &&& 31)))))) H locs ls h hP hD hS (lv_sub hl [1, 2, 0] rfl)
  have B65 : ∀ (v1 : Int32) (v2 : Int32) (v3 : Int32) (x_iK7 : Int32) (x_aK5 : Nat → Int32) (x_aK6 : Nat → Int32) (k28 : Int32 → (Nat → Int32) → (Nat → Int32) → Option (Int32 × (Nat → Int32) × (Nat → Int32))) (hk28 : ∀ (v2' : Int32) (x_aK5' : Nat → Int32) (x_aK6' : Nat → Int32) (H : Heap) (locs : List Loc) (ls : Array Slot), k28 v2' x_aK5' x_aK6' = some q → va_P (dC, dI) vwCl (zzK ad cy (ad 11) (ad 18) (us iK [(7, x_iK7)]) lK (us aK [(5, x_aK5'), (6, x_aK6')]) iB lB aB iC aC) H → va_D A (zzK ad cy (ad 11) (ad 18) (us iK [(7, x_iK7)]) lK (us aK [(5, x_aK5'), (6, x_aK6')]) iB lB aB iC aC) → va_S A s.heap H locs → lv_has ls 4 [(0, .ref (ad 0)), (1, .int v1), (2, .int v2')] → W p l e ({ frames := 2, cells := 0, slots := 0, locals := 43 } : Room) s m args below meth c H locs 0 0 QQ (F0 m 28 ls [])) (H : Heap) (locs : List Loc) (ls : Array Slot), f_K_gatherAtoms_65 N (aB 12) (iC 9) (aC 5) (iK 7) (aK 5) (aK 6) k28 v1 v2 v3 x_iK7 x_aK5 x_aK6 = some q → va_P (dC, dI) vwCl (zzK ad cy (ad 11) (ad 18) (us iK [(7, x_iK7)]) lK (us aK [(5, x_aK5), (6, x_aK6)]) iB lB aB iC aC) H → va_D A (zzK ad cy (ad 11) (ad 18) (us iK [(7, x_iK7)]) lK (us aK [(5, x_aK5), (6, x_aK6)]) iB lB aB iC aC) → va_S A s.heap H locs → lv_has ls 4 [(0, .ref (ad 0)), (1, .int v1), (2, .int v2), (3, .int v3)] → W p l e ({ frames := 2, cells := 0, slots := 0, locals := 43 } : Room) s m args below meth c H locs 0 0 QQ (F0 m 65 ls []) := by
    intro v1 v2 v3 x_iK7 x_aK5 x_aK6 k28 hk28 H locs ls h hP hD hS hl
    unfold f_K_gatherAtoms_65 at h
    refine lv_iload_n hx hb dX2_gatherAtoms_65 rfl (lv_at hl 3 rfl) ?_
    refine lv_iload_n hx hb dX2_gatherAtoms_66 rfl (lv_at hl 1 rfl) ?_
    refine lv_icmp_eq (tgt := 87) hx hb dX2_gatherAtoms_67 (by decide) (fun cz => ?_) (fun cz => ?_)
    · have h := g_t h cz
      exact B87 v1 v2 x_iK7 x_aK5 x_aK6 k28 hk28 H locs ls h hP hD hS (lv_sub hl [0, 1, 2] rfl)
    · have h := g_f h cz
      refine lv_iload_n hx hb dX2_gatherAtoms_70 rfl (lv_at hl 3 rfl) ?_
      refine lv_iconst (v := (-1)) hx hb dX2_gatherAtoms_71 (by decide) ?_
      refine lv_icmp_eq (tgt := 99) hx hb dX2_gatherAtoms_72 (by decide) (fun cz => ?_) (fun cz => ?_)
      · have h := g_t h cz
        refine lv_iinc (v := (v2 + (1 : Int32))) (lv' := [(2, .int ((v2 + (1 : Int32)))), (0, .ref (ad 0)), (1, .int v1), (3, .int v3)]) hx hb dX2_gatherAtoms_99 hl (k := 2) rfl rfl (by decide) rfl (fun ls hl => ?_)
        refine lv_goto (tgt := 28) hx hb dX2_gatherAtoms_102 (by decide) ?_
        exact hk28 ((v2 + (1 : Int32))) x_aK5 x_aK6 H locs ls h hP hD hS (lv_sub hl [1, 2, 0] rfl)
      · have h := g_f h cz
        refine lv_aload_n hx hb dX2_gatherAtoms_75 rfl (lv_at hl 0 rfl) ?_
        refine va_get (D := (dC, dI)) (ci := 2) (v := .ref (ad 11)) (C := RX2) (T := TX2) (N := 15) hx hb hts ki2 hown hK hP 0 rfl rfl 0 (by decide) kf44 (fun _ h9 => h9) rfl dX2_gatherAtoms_76 ?_
        refine lv_iload_n hx hb dX2_gatherAtoms_79 rfl (lv_at hl 1 rfl) ?_
        refine lv_iload_n hx hb dX2_gatherAtoms_80 rfl (lv_at hl 3 rfl) ?_
        obtain ⟨q81, e81, h⟩ := g_b h
        refine callVi (cc := cX2_gatherAtoms) (ws' := zzK ad cy (ad 11) (ad 18) (us iK [(7, x_iK7)]) lK (us aK [(5, x_aK5), (6, x_aK6)]) iB lB aB iC aC) (As := [.int v1, .int v3]) (rest := []) ⟨hx, hb, hml, hown, hts⟩ (c_B_isRoleUnder l dC dI cy (fun i => ad (i + 11)) H.size v1 v3 iB lB aB iC aC q81 e81) (cwV 2 hts (goodV m_ml_X2_150 m_im_X0_isRoleUnder m_se_X0_isRoleUnder m_in_X0 m_cd_X0_isRoleUnder) rfl rfl rfl (by decide +kernel) ⟨Nat.le_of_ble_eq_true rfl, Nat.le_of_ble_eq_true rfl⟩) hN hK hP hD hS hA [11, 12, 13, 14, 15, 16, 17, 18, 19, 20, 21, 22, 23, 24, 25, 26] [none, none, none, none, none, none, none, none, none, none, none, some 0, some 1, some 2, some 3, some 4, some 5, some 6, some 7, some 8, some 9, some 10, some 11, some 12, some 13, some 14, some 15] rfl rfl rfl rfl rfl rfl 11 rfl rfl rfl hl.1 rfl (Nat.le_of_ble_eq_true rfl) dX2_gatherAtoms_81 ⟨Nat.zero_le _, Nat.zero_le _⟩ (fun H locs hP hD hS => ?_)
        refine lv_if_eq (tgt := 99) hx hb dX2_gatherAtoms_84 (by decide) (fun cz => ?_) (fun cz => ?_)
        · have h := g_t h cz
          refine lv_iinc (v := (v2 + (1 : Int32))) (lv' := [(2, .int ((v2 + (1 : Int32)))), (0, .ref (ad 0)), (1, .int v1), (3, .int v3)]) hx hb dX2_gatherAtoms_99 hl (k := 2) rfl rfl (by decide) rfl (fun ls hl => ?_)
          refine lv_goto (tgt := 28) hx hb dX2_gatherAtoms_102 (by decide) ?_
          exact hk28 ((v2 + (1 : Int32))) x_aK5 x_aK6 H locs ls h hP hD hS (lv_sub hl [1, 2, 0] rfl)
        · have h := g_f h cz
          exact B87 v1 v2 x_iK7 x_aK5 x_aK6 k28 hk28 H locs ls h hP hD hS (lv_sub hl [0, 1, 2] rfl)
  have B28 : ∀ (n : Nat) (v1 : Int32) (x_iK7 : Int32) (k7 : Int32 → Int32 → (Nat → Int32) → (Nat → Int32) → Option (Int32 × (Nat → Int32) × (Nat → Int32))) (hk7 : ∀ (v1' : Int32) (x_iK7' : Int32) (x_aK5' : Nat → Int32) (x_aK6' : Nat → Int32) (H : Heap) (locs : List Loc) (ls : Array Slot), k7 v1' x_iK7' x_aK5' x_aK6' = some q → va_P (dC, dI) vwCl (zzK ad cy (ad 11) (ad 18) (us iK [(7, x_iK7')]) lK (us aK [(5, x_aK5'), (6, x_aK6')]) iB lB aB iC aC) H → va_D A (zzK ad cy (ad 11) (ad 18) (us iK [(7, x_iK7')]) lK (us aK [(5, x_aK5'), (6, x_aK6')]) iB lB aB iC aC) → va_S A s.heap H locs → lv_has ls 4 [(0, .ref (ad 0)), (1, .int v1')] → W p l e ({ frames := 2, cells := 0, slots := 0, locals := 43 } : Room) s m args below meth c H locs 0 0 QQ (F0 m 7 ls [])) (v2 : Int32) (x_aK5 : Nat → Int32) (x_aK6 : Nat → Int32) (H : Heap) (locs : List Loc) (ls : Array Slot), f_K_gatherAtoms_28 N (aB 12) (iC 9) (aC 5) (iK 7) (aK 5) (aK 6) k7 v1 x_iK7 n v2 x_aK5 x_aK6 = some q → va_P (dC, dI) vwCl (zzK ad cy (ad 11) (ad 18) (us iK [(7, x_iK7)]) lK (us aK [(5, x_aK5), (6, x_aK6)]) iB lB aB iC aC) H → va_D A (zzK ad cy (ad 11) (ad 18) (us iK [(7, x_iK7)]) lK (us aK [(5, x_aK5), (6, x_aK6)]) iB lB aB iC aC) → va_S A s.heap H locs → lv_has ls 4 [(0, .ref (ad 0)), (1, .int v1), (2, .int v2)] → W p l e ({ frames := 2, cells := 0, slots := 0, locals := 43 } : Room) s m args below meth c H locs 0 0 QQ (F0 m 28 ls []) := by
    intro n
    induction n with
    | zero =>
      intro v1 x_iK7 k7 hk7 v2 x_aK5 x_aK6 H locs ls h hP hD hS hl
      rw [f_K_gatherAtoms_28] at h
      cases h
    | succ n ih =>
      intro v1 x_iK7 k7 hk7 v2 x_aK5 x_aK6 H locs ls h hP hD hS hl
      rw [f_K_gatherAtoms_28] at h
      refine lv_iload_n hx hb dX2_gatherAtoms_28 rfl (lv_at hl 2 rfl) ?_
      refine lv_aload_n hx hb dX2_gatherAtoms_29 rfl (lv_at hl 0 rfl) ?_
      refine va_get (D := (dC, dI)) (ci := 2) (v := .ref (ad 18)) (C := RX2) (T := TX2) (N := 15) hx hb hts ki2 hown hK hP 0 rfl rfl 1 (by decide) kf54 (fun _ h9 => h9) rfl dX2_gatherAtoms_30 ?_
      refine va_get (D := (dC, dI)) (ci := 1) (v := .int (iC 9)) (C := RX1) (T := TX1) (N := 10) hx hb hts ki1 hown hK hP 18 rfl rfl 9 (by decide) kf55 (fun _ h9 => h9) rfl dX2_gatherAtoms_33 ?_
      refine lv_icmp_ge (tgt := 105) hx hb dX2_gatherAtoms_36 (by decide) (fun cz => ?_) (fun cz => ?_)
      · have h := g_t h cz
        refine lv_aload_n hx hb dX2_gatherAtoms_105 rfl (lv_at hl 0 rfl) ?_
        refine lv_dup hx hb dX2_gatherAtoms_106 rfl ?_
        refine va_get (D := (dC, dI)) (ci := 2) (v := .int x_iK7) (C := RX2) (T := TX2) (N := 15) hx hb hts ki2 hown hK hP 0 rfl rfl 7 (by decide) kf144 (fun _ h9 => h9) rfl dX2_gatherAtoms_107 ?_
        refine lv_aload_n hx hb dX2_gatherAtoms_110 rfl (lv_at hl 0 rfl) ?_
        refine va_get (D := (dC, dI)) (ci := 2) (v := .ref (ad 3)) (C := RX2) (T := TX2) (N := 15) hx hb hts ki2 hown hK hP 0 rfl rfl 5 (by decide) kf18 (fun _ h9 => h9) rfl dX2_gatherAtoms_111 ?_
        refine lv_iload_n hx hb dX2_gatherAtoms_114 rfl (lv_at hl 1 rfl) ?_
        obtain ⟨g_1, h⟩ := g_n h
        refine va_iald (f := x_aK5) hx hb hK hP 3 0 rfl rfl g_1 dX2_gatherAtoms_115 ?_
        refine lv_ior hx hb dX2_gatherAtoms_116 ?_
        refine va_put (D := (dC, dI)) (ci := 2) (v := .int ((x_iK7 ||| (x_aK5 v1.toNatClampNeg)))) (ty := .int) (C := RX2) (T := TX2) (N := 15) hx hb hts ki2 tyX2 tyX2_ok nmX2 hown hK hP hD hS 0 rfl rfl 7 (by decide) kf144 (fun _ h9 => h9) rfl (by decide +kernel) rfl rfl (Nat.le_of_ble_eq_true rfl) dX2_gatherAtoms_117 (fun H locs hP hD hS => ?_)
        have hP : va_P (dC, dI) vwCl (zzK ad cy (ad 11) (ad 18) (us iK [(7, (x_iK7 ||| (x_aK5 v1.toNatClampNeg)))]) lK (us aK [(5, x_aK5), (6, x_aK6)]) iB lB aB iC aC) H := Eq.mp (congrArg (fun w => va_P (dC, dI) vwCl w H) (stK_iK7 ad cy (ad 11) (ad 18) iK lK (us aK [(5, x_aK5), (6, x_aK6)]) iB lB aB iC aC [(7, x_iK7)] ((x_iK7 ||| (x_aK5 v1.toNatClampNeg))))) hP
        have hD : va_D A (zzK ad cy (ad 11) (ad 18) (us iK [(7, (x_iK7 ||| (x_aK5 v1.toNatClampNeg)))]) lK (us aK [(5, x_aK5), (6, x_aK6)]) iB lB aB iC aC) := Eq.mp (congrArg (fun w => va_D A w) (stK_iK7 ad cy (ad 11) (ad 18) iK lK (us aK [(5, x_aK5), (6, x_aK6)]) iB lB aB iC aC [(7, x_iK7)] ((x_iK7 ||| (x_aK5 v1.toNatClampNeg))))) hD
        refine lv_iinc (v := (v1 + (1 : Int32))) (lv' := [(1, .int ((v1 + (1 : Int32)))), (0, .ref (ad 0)), (2, .int v2)]) hx hb dX2_gatherAtoms_120 hl (k := 1) rfl rfl (by decide) rfl (fun ls hl => ?_)
        refine lv_goto (tgt := 7) hx hb dX2_gatherAtoms_123 (by decide) ?_
        exact hk7 ((v1 + (1 : Int32))) ((x_iK7 ||| (x_aK5 v1.toNatClampNeg))) x_aK5 x_aK6 H locs ls h hP hD hS (lv_sub hl [1, 0] rfl)
      · have h := g_f h cz
        refine lv_aload_n hx hb dX2_gatherAtoms_39 rfl (lv_at hl 0 rfl) ?_
        refine va_get (D := (dC, dI)) (ci := 2) (v := .ref (ad 18)) (C := RX2) (T := TX2) (N := 15) hx hb hts ki2 hown hK hP 0 rfl rfl 1 (by decide) kf54 (fun _ h9 => h9) rfl dX2_gatherAtoms_40 ?_
        refine lv_iload_n hx hb dX2_gatherAtoms_43 rfl (lv_at hl 2 rfl) ?_
        obtain ⟨q44, e44, h⟩ := g_b h
        refine callVi (cc := cX2_gatherAtoms) (ws' := zzK ad cy (ad 11) (ad 18) (us iK [(7, x_iK7)]) lK (us aK [(5, x_aK5), (6, x_aK6)]) iB lB aB iC aC) (As := [.int v2]) (rest := []) ⟨hx, hb, hml, hown, hts⟩ (c_C_roleOfAtom l dC dI cy (fun i => ad (i + 18)) H.size v2 iC aC q44 e44) (cwV 1 hts (goodV m_ml_X2_147 m_im_X1_roleOfAtom m_se_X1_roleOfAtom m_in_X1 m_cd_X1_roleOfAtom) rfl rfl rfl (by decide +kernel) ⟨Nat.le_of_ble_eq_true rfl, Nat.le_of_ble_eq_true rfl⟩) hN hK hP hD hS hA [18, 19, 20, 21, 22, 23, 24, 25, 26] [none, none, none, none, none, none, none, none, none, none, none, none, none, none, none, none, none, none, some 0, some 1, some 2, some 3, some 4, some 5, some 6, some 7, some 8] rfl rfl rfl rfl rfl rfl 18 rfl rfl rfl hl.1 rfl (Nat.le_of_ble_eq_true rfl) dX2_gatherAtoms_44 ⟨Nat.zero_le _, Nat.zero_le _⟩ (fun H locs hP hD hS => ?_)
        refine lv_istore_n (lv' := [(3, .int q44), (0, .ref (ad 0)), (1, .int v1), (2, .int v2)]) hx hb dX2_gatherAtoms_47 rfl hl (by decide) rfl (fun ls hl => ?_)
        refine lv_iload_n hx hb dX2_gatherAtoms_48 rfl (lv_at hl 0 rfl) ?_
        refine lv_iload_n hx hb dX2_gatherAtoms_49 rfl (lv_at hl 2 rfl) ?_
        refine lv_icmp_ne (tgt := 65) hx hb dX2_gatherAtoms_50 (by decide) (fun cz => ?_) (fun cz => ?_)
        · have h := g_f h cz
          exact B65 v1 v2 q44 x_iK7 x_aK5 x_aK6 (f_K_gatherAtoms_28 N (aB 12) (iC 9) (aC 5) (iK 7) (aK 5) (aK 6) k7 v1 x_iK7 n) (ih v1 x_iK7 k7 hk7) H locs ls h hP hD hS (lv_sub hl [1, 2, 3, 0] rfl)
        · have h := g_t h cz
          refine lv_aload_n hx hb dX2_gatherAtoms_53 rfl (lv_at hl 1 rfl) ?_
          refine va_get (D := (dC, dI)) (ci := 2) (v := .ref (ad 3)) (C := RX2) (T := TX2) (N := 15) hx hb hts ki2 hown hK hP 0 rfl rfl 5 (by decide) kf18 (fun _ h9 => h9) rfl dX2_gatherAtoms_54 ?_
          refine lv_iload_n hx hb dX2_gatherAtoms_57 rfl (lv_at hl 2 rfl) ?_
          refine lv_dup2_11 hx hb dX2_gatherAtoms_58 rfl rfl ?_
          obtain ⟨g_1, h⟩ := g_n h
          refine va_iald (f := x_aK5) hx hb hK hP 3 0 rfl rfl g_1 dX2_gatherAtoms_59 ?_
          refine lv_iconst (v := 1) hx hb dX2_gatherAtoms_60 (by decide) ?_
          refine lv_iload_n hx hb dX2_gatherAtoms_61 rfl (lv_at hl 3 rfl) ?_
          refine lv_ishl hx hb dX2_gatherAtoms_62 ?_
          refine lv_ior hx hb dX2_gatherAtoms_63 ?_
          refine va_iast (f := x_aK5) hx hb hK hP hD hS 3 0 rfl rfl g_1 dX2_gatherAtoms_64 (fun H locs hP hD hS => ?_)
          have hP : va_P (dC, dI) vwCl (zzK ad cy (ad 11) (ad 18) (us iK [(7, x_iK7)]) lK (us aK [(5, (upd x_aK5 v1.toNatClampNeg (((x_aK5 v1.toNatClampNeg) ||| ((1 : Int32) <<< (v2 &&& 31)))))), (6, x_aK6)]) iB lB aB iC aC) H := Eq.mp (congrArg (fun w => va_P (dC, dI) vwCl w H) (stK_aK5 ad cy (ad 11) (ad 18) (us iK [(7, x_iK7)]) lK aK iB lB aB iC aC [(5, x_aK5), (6, x_aK6)] ((upd x_aK5 v1.toNatClampNeg (((x_aK5 v1.toNatClampNeg) ||| ((1 : Int32) <<< (v2 &&& 31)))))))) hP
          have hD : va_D A (zzK ad cy (ad 11) (ad 18) (us iK [(7, x_iK7)]) lK (us aK [(5, (upd x_aK5 v1.toNatClampNeg (((x_aK5 v1.toNatClampNeg) ||| ((1 : Int32) <<< (v2 &&& 31)))))), (6, x_aK6)]) iB lB aB iC aC) := Eq.mp (congrArg (fun w => va_D A w) (stK_aK5 ad cy (ad 11) (ad 18) (us iK [(7, x_iK7)]) lK aK iB lB aB iC aC [(5, x_aK5), (6, x_aK6)] ((upd x_aK5 v1.toNatClampNeg (((x_aK5 v1.toNatClampNeg) ||| ((1 : Int32) <<< (v2 &&& 31)))))))) hD
          exact B65 v1 v2 q44 x_iK7 ((upd x_aK5 v1.toNatClampNeg (((x_aK5 v1.toNatClampNeg) ||| ((1 : Int32) <<< (v2 &&& 31)))))) x_aK6 (f_K_gatherAtoms_28 N (aB 12) (iC 9) (aC 5) (iK 7) (aK 5) (aK 6) k7 v1 x_iK7 n) (ih v1 x_iK7 k7 hk7) H locs ls h hP hD hS (lv_sub hl [1, 2, 3, 0] rfl)
  have B7 : ∀ (n : Nat) (v1 : Int32) (x_iK7 : Int32) (x_aK5 : Nat → Int32) (x_aK6 : Nat → Int32) (H : Heap) (locs : List Loc) (ls : Array Slot), f_K_gatherAtoms_7 N (aB 12) (iC 9) (aC 5) (iK 7) (aK 5) (aK 6) n v1 x_iK7 x_aK5 x_aK6 = some q → va_P (dC, dI) vwCl (zzK ad cy (ad 11) (ad 18) (us iK [(7, x_iK7)]) lK (us aK [(5, x_aK5), (6, x_aK6)]) iB lB aB iC aC) H → va_D A (zzK ad cy (ad 11) (ad 18) (us iK [(7, x_iK7)]) lK (us aK [(5, x_aK5), (6, x_aK6)]) iB lB aB iC aC) → va_S A s.heap H locs → lv_has ls 4 [(0, .ref (ad 0)), (1, .int v1)] → W p l e ({ frames := 2, cells := 0, slots := 0, locals := 43 } : Room) s m args below meth c H locs 0 0 QQ (F0 m 7 ls []) := by
    intro n
    induction n with
    | zero =>
      intro v1 x_iK7 x_aK5 x_aK6 H locs ls h hP hD hS hl
      rw [f_K_gatherAtoms_7] at h
      cases h
    | succ n ih =>
      intro v1 x_iK7 x_aK5 x_aK6 H locs ls h hP hD hS hl
      rw [f_K_gatherAtoms_7] at h
      refine lv_iload_n hx hb dX2_gatherAtoms_7 rfl (lv_at hl 1 rfl) ?_
      refine lv_iconst (v := 3) hx hb dX2_gatherAtoms_8 (by decide) ?_
      refine lv_icmp_ge (tgt := 126) hx hb dX2_gatherAtoms_9 (by decide) (fun cz => ?_) (fun cz => ?_)
      · have h := g_t h cz
        have h' := Option.some.inj h
        rw [← hQQ]
        exact W.vret hx hb hr (fun t ht hW => ⟨⟨(), rfl, trivial, by rw [← hWQ, ← h', ht]; exact hP, va_K.moved hW.alike hK⟩, hS.F ht⟩) hS.2.2 dX2_gatherAtoms_126
      · have h := g_f h cz
        refine lv_aload_n hx hb dX2_gatherAtoms_12 rfl (lv_at hl 0 rfl) ?_
        refine va_get (D := (dC, dI)) (ci := 2) (v := .ref (ad 3)) (C := RX2) (T := TX2) (N := 15) hx hb hts ki2 hown hK hP 0 rfl rfl 5 (by decide) kf18 (fun _ h9 => h9) rfl dX2_gatherAtoms_13 ?_
        refine lv_iload_n hx hb dX2_gatherAtoms_16 rfl (lv_at hl 1 rfl) ?_
        refine lv_iconst (v := 0) hx hb dX2_gatherAtoms_17 (by decide) ?_
        obtain ⟨g_1, h⟩ := g_n h
        refine va_iast (f := x_aK5) hx hb hK hP hD hS 3 0 rfl rfl g_1 dX2_gatherAtoms_18 (fun H locs hP hD hS => ?_)
        have hP : va_P (dC, dI) vwCl (zzK ad cy (ad 11) (ad 18) (us iK [(7, x_iK7)]) lK (us aK [(5, (upd x_aK5 v1.toNatClampNeg ((0 : Int32)))), (6, x_aK6)]) iB lB aB iC aC) H := Eq.mp (congrArg (fun w => va_P (dC, dI) vwCl w H) (stK_aK5 ad cy (ad 11) (ad 18) (us iK [(7, x_iK7)]) lK aK iB lB aB iC aC [(5, x_aK5), (6, x_aK6)] ((upd x_aK5 v1.toNatClampNeg ((0 : Int32)))))) hP
        have hD : va_D A (zzK ad cy (ad 11) (ad 18) (us iK [(7, x_iK7)]) lK (us aK [(5, (upd x_aK5 v1.toNatClampNeg ((0 : Int32)))), (6, x_aK6)]) iB lB aB iC aC) := Eq.mp (congrArg (fun w => va_D A w) (stK_aK5 ad cy (ad 11) (ad 18) (us iK [(7, x_iK7)]) lK aK iB lB aB iC aC [(5, x_aK5), (6, x_aK6)] ((upd x_aK5 v1.toNatClampNeg ((0 : Int32)))))) hD
        refine lv_aload_n hx hb dX2_gatherAtoms_19 rfl (lv_at hl 0 rfl) ?_
        refine va_get (D := (dC, dI)) (ci := 2) (v := .ref (ad 4)) (C := RX2) (T := TX2) (N := 15) hx hb hts ki2 hown hK hP 0 rfl rfl 6 (by decide) kf22 (fun _ h9 => h9) rfl dX2_gatherAtoms_20 ?_
        refine lv_iload_n hx hb dX2_gatherAtoms_23 rfl (lv_at hl 1 rfl) ?_
        refine lv_iconst (v := 0) hx hb dX2_gatherAtoms_24 (by decide) ?_
        refine va_iast (f := x_aK6) hx hb hK hP hD hS 4 0 rfl rfl g_1 dX2_gatherAtoms_25 (fun H locs hP hD hS => ?_)
        have hP : va_P (dC, dI) vwCl (zzK ad cy (ad 11) (ad 18) (us iK [(7, x_iK7)]) lK (us aK [(5, (upd x_aK5 v1.toNatClampNeg ((0 : Int32)))), (6, (upd x_aK6 v1.toNatClampNeg ((0 : Int32))))]) iB lB aB iC aC) H := Eq.mp (congrArg (fun w => va_P (dC, dI) vwCl w H) (stK_aK6 ad cy (ad 11) (ad 18) (us iK [(7, x_iK7)]) lK aK iB lB aB iC aC [(5, (upd x_aK5 v1.toNatClampNeg ((0 : Int32)))), (6, x_aK6)] ((upd x_aK6 v1.toNatClampNeg ((0 : Int32)))))) hP
        have hD : va_D A (zzK ad cy (ad 11) (ad 18) (us iK [(7, x_iK7)]) lK (us aK [(5, (upd x_aK5 v1.toNatClampNeg ((0 : Int32)))), (6, (upd x_aK6 v1.toNatClampNeg ((0 : Int32))))]) iB lB aB iC aC) := Eq.mp (congrArg (fun w => va_D A w) (stK_aK6 ad cy (ad 11) (ad 18) (us iK [(7, x_iK7)]) lK aK iB lB aB iC aC [(5, (upd x_aK5 v1.toNatClampNeg ((0 : Int32)))), (6, x_aK6)] ((upd x_aK6 v1.toNatClampNeg ((0 : Int32)))))) hD
        refine lv_iconst (v := 0) hx hb dX2_gatherAtoms_26 (by decide) ?_
        refine lv_istore_n (lv' := [(2, .int ((0 : Int32))), (0, .ref (ad 0)), (1, .int v1)]) hx hb dX2_gatherAtoms_27 rfl hl (by decide) rfl (fun ls hl => ?_)
        exact B28 N v1 x_iK7 (f_K_gatherAtoms_7 N (aB 12) (iC 9) (aC 5) (iK 7) (aK 5) (aK 6) n) ih ((0 : Int32)) ((upd x_aK5 v1.toNatClampNeg ((0 : Int32)))) ((upd x_aK6 v1.toNatClampNeg ((0 : Int32)))) H locs ls h hP hD hS (lv_sub hl [1, 2, 0] rfl)
  intro H locs hP hD hS
  unfold f_K_gatherAtoms at h
  refine lv_aload_n hx hb dX2_gatherAtoms_0 rfl (lv_at hl 0 rfl) ?_
  refine lv_iconst (v := 0) hx hb dX2_gatherAtoms_1 (by decide) ?_
  refine va_put (D := (dC, dI)) (ci := 2) (v := .int ((0 : Int32))) (ty := .int) (C := RX2) (T := TX2) (N := 15) hx hb hts ki2 tyX2 tyX2_ok nmX2 hown hK hP hD hS 0 rfl rfl 7 (by decide) kf144 (fun _ h9 => h9) rfl (by decide +kernel) rfl rfl (Nat.le_of_ble_eq_true rfl) dX2_gatherAtoms_2 (fun H locs hP hD hS => ?_)
  have hP : va_P (dC, dI) vwCl (zzK ad cy (ad 11) (ad 18) (us iK [(7, (0 : Int32))]) lK aK iB lB aB iC aC) H := Eq.mp (congrArg (fun w => va_P (dC, dI) vwCl w H) (sfK_iK7 ad cy (ad 11) (ad 18) iK lK aK iB lB aB iC aC ((0 : Int32)))) hP
  have hD : va_D A (zzK ad cy (ad 11) (ad 18) (us iK [(7, (0 : Int32))]) lK aK iB lB aB iC aC) := Eq.mp (congrArg (fun w => va_D A w) (sfK_iK7 ad cy (ad 11) (ad 18) iK lK aK iB lB aB iC aC ((0 : Int32)))) hD
  refine lv_iconst (v := 0) hx hb dX2_gatherAtoms_5 (by decide) ?_
  refine lv_istore_n (lv' := [(1, .int ((0 : Int32))), (0, .ref (ad 0))]) hx hb dX2_gatherAtoms_6 rfl hl (by decide) rfl (fun ls hl => ?_)
  exact B7 N ((0 : Int32)) ((0 : Int32)) (aK 5) (aK 6) H locs ls h hP hD hS (lv_sub hl [1, 0] rfl)
set_option maxHeartbeats 8000000 in
set_option maxRecDepth 100000 in
theorem c_B_ruleStatement (l : Launch) (dC : Nat → ClassId) (dI : Nat → Nat → Nat) (cy : Nat → ClassId) (ad : Nat → Nat) (sz : Nat) (a1 : Int32) (iB : Nat → Int32) (lB : Nat → Nat → Int64) (aB : Nat → Nat → Int32) (iC : Nat → Int32) (aC : Nat → Nat → Int32) (q : Int32) (h : f_B_ruleStatement a1 (iB 9) (aB 8) = some q) : Met l yX0_ruleStatement wsX0_ruleStatement ({ frames := 0, cells := 0, slots := 0, locals := 0 } : Room) (cP (dC, dI) cy [.ref (ad 0), .int a1] (zzB ad cy iB lB aB iC aC) sz) (cQi (dC, dI) cy q (zzB ad cy iB lB aB iC aC) (va_A (zzB ad cy iB lB aB iC aC) sz)) 0 0 (va_A (zzB ad cy iB lB aB iC aC) sz) := by
  refine Met.ofW (cc := cX0_ruleStatement) (maxL := 2) (ret := (some .int)) (by decide) rfl ?_
  intro p e s m args below meth c s₁ B hml hv
  obtain ⟨hav, hsz, hP, hK, hD0, hN⟩ := hv
  have hx := B.exec
  have hb := B.bytes
  have hr := B.returns
  have hts := atoms_spec (ws := wsX0_ruleStatement) B.pre
  have hown : s.vm.findClass RX0 = some m.cls := findClass_of_methodNamed B.named
  have hlocks := B.notSynchronized
  subst hsz
  have hD := hD0.self (sz := s.heap.size)
  generalize hAe : va_A (zzB ad cy iB lB aB iC aC) s.heap.size = A at hD ⊢
  have hA : ∀ q : Nat, s.heap.size ≤ q → A q := fun q h => by rw [← hAe]; exact Or.inr h
  have hS : va_S A s.heap s.heap [] := va_S.rf
  generalize hWQ : (zzB ad cy iB lB aB iC aC) = WQ
  generalize hQQ : MQ below (cQi (dC, dI) cy q WQ A) args s 0 0 A = QQ
  have hl := lv_entry ([.ref (ad 0), .int a1] : List Value) (n := 2) (Nat.le_of_ble_eq_true rfl)
  have hfr := lg_entry_eq m ([.ref (ad 0), .int a1] : List Value) 2
  rw [← hav] at hfr
  rw [hfr]
  clear hfr hav
  generalize (lg_sl ([.ref (ad 0), .int a1] : List Value) ++ List.replicate (2 - (lg_sl ([.ref (ad 0), .int a1] : List Value)).length) Slot.unset).toArray = ls at hl ⊢
  have hl : lv_has ls 2 [(0, .ref (ad 0)), (1, .int a1)] := hl
  have kf54 := hts _ (List.mem_cons_of_mem _ m_fl_X0_54)
  have ki0 := (fun w h => List.mem_cons_of_mem _ (i_X0 w h) : ∀ w ∈ u_ws RX0 TX0 15, w ∈ wsX0_ruleStatement)
  have kf29 := hts _ (List.mem_cons_of_mem _ m_fl_X0_29)
  refine (?_ : ∀ (H : Heap) (locs : List Loc), va_P (dC, dI) vwCl (zzB ad cy iB lB aB iC aC) H → va_D A (zzB ad cy iB lB aB iC aC) → va_S A s.heap H locs → W p l e ({ frames := 0, cells := 0, slots := 0, locals := 0 } : Room) s m args below meth c H locs 0 0 QQ (F0 m 0 ls [])) s.heap [] hP hD hS
  clear hP hD hS
  intro H locs hP hD hS
  unfold f_B_ruleStatement at h
  refine lv_iload_n hx hb dX0_ruleStatement_0 rfl (lv_at hl 1 rfl) ?_
  refine lv_if_lt (tgt := 21) hx hb dX0_ruleStatement_1 (by decide) (fun cz => ?_) (fun cz => ?_)
  · have h := g_t h cz
    refine lv_iconst (v := (-1)) hx hb dX0_ruleStatement_21 (by decide) ?_
    have h' := Option.some.inj h
    rw [← hQQ]
    exact W.iret (v := (-1 : Int32)) hx hb hr (fun t ht hW => ⟨⟨(-1 : Int32), (), rfl, by rw [← h'], by rw [← hWQ, ht]; exact hP, va_K.moved hW.alike hK⟩, hS.F ht⟩) hS.2.2 dX0_ruleStatement_22
  · have h := g_f h cz
    refine lv_iload_n hx hb dX0_ruleStatement_4 rfl (lv_at hl 1 rfl) ?_
    refine lv_aload_n hx hb dX0_ruleStatement_5 rfl (lv_at hl 0 rfl) ?_
    refine va_get (D := (dC, dI)) (ci := 0) (v := .int (iB 9)) (C := RX0) (T := TX0) (N := 15) hx hb hts ki0 hown hK hP 0 rfl rfl 9 (by decide) kf54 (fun _ h9 => h9) rfl dX0_ruleStatement_6 ?_
    refine lv_icmp_ge (tgt := 21) hx hb dX0_ruleStatement_9 (by decide) (fun cz => ?_) (fun cz => ?_)
    · have h := g_t h cz
      refine lv_iconst (v := (-1)) hx hb dX0_ruleStatement_21 (by decide) ?_
      have h' := Option.some.inj h
      rw [← hQQ]
      exact W.iret (v := (-1 : Int32)) hx hb hr (fun t ht hW => ⟨⟨(-1 : Int32), (), rfl, by rw [← h'], by rw [← hWQ, ht]; exact hP, va_K.moved hW.alike hK⟩, hS.F ht⟩) hS.2.2 dX0_ruleStatement_22
    · have h := g_f h cz
      refine lv_aload_n hx hb dX0_ruleStatement_12 rfl (lv_at hl 0 rfl) ?_
      refine va_get (D := (dC, dI)) (ci := 0) (v := .ref (ad 4)) (C := RX0) (T := TX0) (N := 15) hx hb hts ki0 hown hK hP 0 rfl rfl 8 (by decide) kf29 (fun _ h9 => h9) rfl dX0_ruleStatement_13 ?_
      refine lv_iload_n hx hb dX0_ruleStatement_16 rfl (lv_at hl 1 rfl) ?_
      obtain ⟨g_20, h⟩ := g_n h
      refine va_iald (f := (aB 8)) hx hb hK hP 4 0 rfl rfl g_20 dX0_ruleStatement_17 ?_
      refine lv_goto (tgt := 22) hx hb dX0_ruleStatement_18 (by decide) ?_
      have h' := Option.some.inj h
      rw [← hQQ]
      exact W.iret (v := ((aB 8) a1.toNatClampNeg)) hx hb hr (fun t ht hW => ⟨⟨((aB 8) a1.toNatClampNeg), (), rfl, by rw [← h'], by rw [← hWQ, ht]; exact hP, va_K.moved hW.alike hK⟩, hS.F ht⟩) hS.2.2 dX0_ruleStatement_22
set_option maxHeartbeats 8000000 in
set_option maxRecDepth 100000 in
theorem c_B_leftOf (l : Launch) (dC : Nat → ClassId) (dI : Nat → Nat → Nat) (cy : Nat → ClassId) (ad : Nat → Nat) (sz : Nat) (a0 : Int32) (q : Int32) (h : f_B_leftOf a0 = some q) : Met l yX0_leftOf wsX0_leftOf ({ frames := 0, cells := 0, slots := 0, locals := 0 } : Room) (cP (dC, dI) cy [.int a0] (zzE ad cy) sz) (cQi (dC, dI) cy q (zzE ad cy) (va_A (zzE ad cy) sz)) 0 0 (va_A (zzE ad cy) sz) := by
  refine Met.ofW (cc := cX0_leftOf) (maxL := 1) (ret := (some .int)) (by decide) rfl ?_
  intro p e s m args below meth c s₁ B hml hv
  obtain ⟨hav, hsz, hP, hK, hD0, hN⟩ := hv
  have hx := B.exec
  have hb := B.bytes
  have hr := B.returns
  have hts := atoms_spec (ws := wsX0_leftOf) B.pre
  have hown : s.vm.findClass RX0 = some m.cls := findClass_of_methodNamed B.named
  have hlocks := B.notSynchronized
  subst hsz
  have hD := hD0.self (sz := s.heap.size)
  generalize hAe : va_A (zzE ad cy) s.heap.size = A at hD ⊢
  have hA : ∀ q : Nat, s.heap.size ≤ q → A q := fun q h => by rw [← hAe]; exact Or.inr h
  have hS : va_S A s.heap s.heap [] := va_S.rf
  generalize hWQ : (zzE ad cy) = WQ
  generalize hQQ : MQ below (cQi (dC, dI) cy q WQ A) args s 0 0 A = QQ
  have hl := lv_entry ([.int a0] : List Value) (n := 1) (Nat.le_of_ble_eq_true rfl)
  have hfr := lg_entry_eq m ([.int a0] : List Value) 1
  rw [← hav] at hfr
  rw [hfr]
  clear hfr hav
  generalize (lg_sl ([.int a0] : List Value) ++ List.replicate (1 - (lg_sl ([.int a0] : List Value)).length) Slot.unset).toArray = ls at hl ⊢
  have hl : lv_has ls 1 [(0, .int a0)] := hl
  refine (?_ : ∀ (H : Heap) (locs : List Loc), va_P (dC, dI) vwCl (zzE ad cy) H → va_D A (zzE ad cy) → va_S A s.heap H locs → W p l e ({ frames := 0, cells := 0, slots := 0, locals := 0 } : Room) s m args below meth c H locs 0 0 QQ (F0 m 0 ls [])) s.heap [] hP hD hS
  clear hP hD hS
  intro H locs hP hD hS
  unfold f_B_leftOf at h
  refine lv_iload_n hx hb dX0_leftOf_0 rfl (lv_at hl 0 rfl) ?_
  refine lv_bipush (v := 8) hx hb dX0_leftOf_1 (by decide) ?_
  refine lv_ishr hx hb dX0_leftOf_3 ?_
  refine lv_sipush (v := 255) hx hb dX0_leftOf_4 (by decide) ?_
  refine lv_iand hx hb dX0_leftOf_7 ?_
  have h' := Option.some.inj h
  rw [← hQQ]
  exact W.iret (v := ((a0 >>> ((8 : Int32) &&& 31)) &&& (255 : Int32))) hx hb hr (fun t ht hW => ⟨⟨((a0 >>> ((8 : Int32) &&& 31)) &&& (255 : Int32)), (), rfl, by rw [← h'], by rw [← hWQ, ht]; exact hP, va_K.moved hW.alike hK⟩, hS.F ht⟩) hS.2.2 dX0_leftOf_8
set_option maxHeartbeats 8000000 in
set_option maxRecDepth 100000 in
theorem c_K_truthOf (l : Launch) (dC : Nat → ClassId) (dI : Nat → Nat → Nat) (cy : Nat → ClassId) (ad : Nat → Nat) (sz : Nat) (a1 : Int32) (a2 : Int32) (iK : Nat → Int32) (lK : Nat → Nat → Int64) (aK : Nat → Nat → Int32) (iB : Nat → Int32) (lB : Nat → Nat → Int64) (aB : Nat → Nat → Int32) (iC : Nat → Int32) (aC : Nat → Nat → Int32) (q : Int64) (h : f_K_truthOf a1 a2 (lK 3) = some q) : Met l yX2_truthOf wsX2_truthOf ({ frames := 0, cells := 0, slots := 0, locals := 0 } : Room) (cP (dC, dI) cy [.ref (ad 0), .int a1, .int a2] (zzK ad cy (ad 11) (ad 18) iK lK aK iB lB aB iC aC) sz) (cQl (dC, dI) cy q (zzK ad cy (ad 11) (ad 18) iK lK aK iB lB aB iC aC) (va_A (zzK ad cy (ad 11) (ad 18) iK lK aK iB lB aB iC aC) sz)) 0 0 (va_A (zzK ad cy (ad 11) (ad 18) iK lK aK iB lB aB iC aC) sz) := by
  refine Met.ofW (cc := cX2_truthOf) (maxL := 3) (ret := (some .long)) (by decide) rfl ?_
  intro p e s m args below meth c s₁ B hml hv
  obtain ⟨hav, hsz, hP, hK, hD0, hN⟩ := hv
  have hx := B.exec
  have hb := B.bytes
  have hr := B.returns
  have hts := atoms_spec (ws := wsX2_truthOf) B.pre
  have hown : s.vm.findClass RX2 = some m.cls := findClass_of_methodNamed B.named
  have hlocks := B.notSynchronized
  subst hsz
  have hD := hD0.self (sz := s.heap.size)
  generalize hAe : va_A (zzK ad cy (ad 11) (ad 18) iK lK aK iB lB aB iC aC) s.heap.size = A at hD ⊢
  have hA : ∀ q : Nat, s.heap.size ≤ q → A q := fun q h => by rw [← hAe]; exact Or.inr h
  have hS : va_S A s.heap s.heap [] := va_S.rf
  generalize hWQ : (zzK ad cy (ad 11) (ad 18) iK lK aK iB lB aB iC aC) = WQ
  generalize hQQ : MQ below (cQl (dC, dI) cy q WQ A) args s 0 0 A = QQ
  have hl := lv_entry ([.ref (ad 0), .int a1, .int a2] : List Value) (n := 3) (Nat.le_of_ble_eq_true rfl)
  have hfr := lg_entry_eq m ([.ref (ad 0), .int a1, .int a2] : List Value) 3
  rw [← hav] at hfr
  rw [hfr]
  clear hfr hav
  generalize (lg_sl ([.ref (ad 0), .int a1, .int a2] : List Value) ++ List.replicate (3 - (lg_sl ([.ref (ad 0), .int a1, .int a2] : List Value)).length) Slot.unset).toArray = ls at hl ⊢
  have hl : lv_has ls 3 [(0, .ref (ad 0)), (1, .int a1), (2, .int a2)] := hl
  have kf9 := hts _ (List.mem_cons_of_mem _ m_fl_X2_9)
  have ki2 := (fun w h => List.mem_cons_of_mem _ (i_X2 w h) : ∀ w ∈ u_ws RX2 TX2 15, w ∈ wsX2_truthOf)
  refine (?_ : ∀ (H : Heap) (locs : List Loc), va_P (dC, dI) vwCl (zzK ad cy (ad 11) (ad 18) iK lK aK iB lB aB iC aC) H → va_D A (zzK ad cy (ad 11) (ad 18) iK lK aK iB lB aB iC aC) → va_S A s.heap H locs → W p l e ({ frames := 0, cells := 0, slots := 0, locals := 0 } : Room) s m args below meth c H locs 0 0 QQ (F0 m 0 ls [])) s.heap [] hP hD hS
  clear hP hD hS
  intro H locs hP hD hS
  unfold f_K_truthOf at h
  refine lv_iload_n hx hb dX2_truthOf_0 rfl (lv_at hl 1 rfl) ?_
  refine lv_if_lt (tgt := 35) hx hb dX2_truthOf_1 (by decide) (fun cz => ?_) (fun cz => ?_)
  · have h := g_t h cz
    refine lv_lconst (v := 0) hx hb dX2_truthOf_35 (by decide) ?_
    have h' := Option.some.inj h
    rw [← hQQ]
    exact W.lret (v := (0 : Int64)) hx hb hr (fun t ht hW => ⟨⟨(0 : Int64), (), rfl, by rw [← h'], by rw [← hWQ, ht]; exact hP, va_K.moved hW.alike hK⟩, hS.F ht⟩) hS.2.2 dX2_truthOf_36
  · have h := g_f h cz
    refine lv_iload_n hx hb dX2_truthOf_4 rfl (lv_at hl 1 rfl) ?_
    refine lv_sipush (v := 200) hx hb dX2_truthOf_5 (by decide) ?_
    refine lv_icmp_ge (tgt := 35) hx hb dX2_truthOf_8 (by decide) (fun cz => ?_) (fun cz => ?_)
    · have h := g_t h cz
      refine lv_lconst (v := 0) hx hb dX2_truthOf_35 (by decide) ?_
      have h' := Option.some.inj h
      rw [← hQQ]
      exact W.lret (v := (0 : Int64)) hx hb hr (fun t ht hW => ⟨⟨(0 : Int64), (), rfl, by rw [← h'], by rw [← hWQ, ht]; exact hP, va_K.moved hW.alike hK⟩, hS.F ht⟩) hS.2.2 dX2_truthOf_36
    · have h := g_f h cz
      refine lv_iload_n hx hb dX2_truthOf_11 rfl (lv_at hl 2 rfl) ?_
      refine lv_if_lt (tgt := 35) hx hb dX2_truthOf_12 (by decide) (fun cz => ?_) (fun cz => ?_)
      · have h := g_t h cz
        refine lv_lconst (v := 0) hx hb dX2_truthOf_35 (by decide) ?_
        have h' := Option.some.inj h
        rw [← hQQ]
        exact W.lret (v := (0 : Int64)) hx hb hr (fun t ht hW => ⟨⟨(0 : Int64), (), rfl, by rw [← h'], by rw [← hWQ, ht]; exact hP, va_K.moved hW.alike hK⟩, hS.F ht⟩) hS.2.2 dX2_truthOf_36
      · have h := g_f h cz
        refine lv_iload_n hx hb dX2_truthOf_15 rfl (lv_at hl 2 rfl) ?_
        refine lv_bipush (v := 8) hx hb dX2_truthOf_16 (by decide) ?_
        refine lv_icmp_ge (tgt := 35) hx hb dX2_truthOf_18 (by decide) (fun cz => ?_) (fun cz => ?_)
        · have h := g_t h cz
          refine lv_lconst (v := 0) hx hb dX2_truthOf_35 (by decide) ?_
          have h' := Option.some.inj h
          rw [← hQQ]
          exact W.lret (v := (0 : Int64)) hx hb hr (fun t ht hW => ⟨⟨(0 : Int64), (), rfl, by rw [← h'], by rw [← hWQ, ht]; exact hP, va_K.moved hW.alike hK⟩, hS.F ht⟩) hS.2.2 dX2_truthOf_36
        · have h := g_f h cz
          refine lv_aload_n hx hb dX2_truthOf_21 rfl (lv_at hl 0 rfl) ?_
          refine va_get (D := (dC, dI)) (ci := 2) (v := .ref (ad 1)) (C := RX2) (T := TX2) (N := 15) hx hb hts ki2 hown hK hP 0 rfl rfl 3 (by decide) kf9 (fun _ h9 => h9) rfl dX2_truthOf_22 ?_
          refine lv_iload_n hx hb dX2_truthOf_25 rfl (lv_at hl 1 rfl) ?_
          refine lv_bipush (v := 8) hx hb dX2_truthOf_26 (by decide) ?_
          refine lv_imul hx hb dX2_truthOf_28 ?_
          refine lv_iload_n hx hb dX2_truthOf_29 rfl (lv_at hl 2 rfl) ?_
          refine lv_iadd hx hb dX2_truthOf_30 ?_
          obtain ⟨g_21, h⟩ := g_n h
          refine va_lald (f := (lK 3)) hx hb hK hP 1 2 rfl rfl g_21 dX2_truthOf_31 ?_
          refine lv_goto (tgt := 36) hx hb dX2_truthOf_32 (by decide) ?_
          have h' := Option.some.inj h
          rw [← hQQ]
          exact W.lret (v := ((lK 3) (((a1 * (8 : Int32)) + a2)).toNatClampNeg)) hx hb hr (fun t ht hW => ⟨⟨((lK 3) (((a1 * (8 : Int32)) + a2)).toNatClampNeg), (), rfl, by rw [← h'], by rw [← hWQ, ht]; exact hP, va_K.moved hW.alike hK⟩, hS.F ht⟩) hS.2.2 dX2_truthOf_36
set_option maxHeartbeats 8000000 in
set_option maxRecDepth 100000 in
theorem c_B_rightOf (l : Launch) (dC : Nat → ClassId) (dI : Nat → Nat → Nat) (cy : Nat → ClassId) (ad : Nat → Nat) (sz : Nat) (a0 : Int32) (q : Int32) (h : f_B_rightOf a0 = some q) : Met l yX0_rightOf wsX0_rightOf ({ frames := 0, cells := 0, slots := 0, locals := 0 } : Room) (cP (dC, dI) cy [.int a0] (zzE ad cy) sz) (cQi (dC, dI) cy q (zzE ad cy) (va_A (zzE ad cy) sz)) 0 0 (va_A (zzE ad cy) sz) := by
  refine Met.ofW (cc := cX0_rightOf) (maxL := 1) (ret := (some .int)) (by decide) rfl ?_
  intro p e s m args below meth c s₁ B hml hv
  obtain ⟨hav, hsz, hP, hK, hD0, hN⟩ := hv
  have hx := B.exec
  have hb := B.bytes
  have hr := B.returns
  have hts := atoms_spec (ws := wsX0_rightOf) B.pre
  have hown : s.vm.findClass RX0 = some m.cls := findClass_of_methodNamed B.named
  have hlocks := B.notSynchronized
  subst hsz
  have hD := hD0.self (sz := s.heap.size)
  generalize hAe : va_A (zzE ad cy) s.heap.size = A at hD ⊢
  have hA : ∀ q : Nat, s.heap.size ≤ q → A q := fun q h => by rw [← hAe]; exact Or.inr h
  have hS : va_S A s.heap s.heap [] := va_S.rf
  generalize hWQ : (zzE ad cy) = WQ
  generalize hQQ : MQ below (cQi (dC, dI) cy q WQ A) args s 0 0 A = QQ
  have hl := lv_entry ([.int a0] : List Value) (n := 1) (Nat.le_of_ble_eq_true rfl)
  have hfr := lg_entry_eq m ([.int a0] : List Value) 1
  rw [← hav] at hfr
  rw [hfr]
  clear hfr hav
  generalize (lg_sl ([.int a0] : List Value) ++ List.replicate (1 - (lg_sl ([.int a0] : List Value)).length) Slot.unset).toArray = ls at hl ⊢
  have hl : lv_has ls 1 [(0, .int a0)] := hl
  refine (?_ : ∀ (H : Heap) (locs : List Loc), va_P (dC, dI) vwCl (zzE ad cy) H → va_D A (zzE ad cy) → va_S A s.heap H locs → W p l e ({ frames := 0, cells := 0, slots := 0, locals := 0 } : Room) s m args below meth c H locs 0 0 QQ (F0 m 0 ls [])) s.heap [] hP hD hS
  clear hP hD hS
  intro H locs hP hD hS
  unfold f_B_rightOf at h
  refine lv_iload_n hx hb dX0_rightOf_0 rfl (lv_at hl 0 rfl) ?_
  refine lv_bipush (v := 16) hx hb dX0_rightOf_1 (by decide) ?_
  refine lv_ishr hx hb dX0_rightOf_3 ?_
  refine lv_sipush (v := 255) hx hb dX0_rightOf_4 (by decide) ?_
  refine lv_iand hx hb dX0_rightOf_7 ?_
  have h' := Option.some.inj h
  rw [← hQQ]
  exact W.iret (v := ((a0 >>> ((16 : Int32) &&& 31)) &&& (255 : Int32))) hx hb hr (fun t ht hW => ⟨⟨((a0 >>> ((16 : Int32) &&& 31)) &&& (255 : Int32)), (), rfl, by rw [← h'], by rw [← hWQ, ht]; exact hP, va_K.moved hW.alike hK⟩, hS.F ht⟩) hS.2.2 dX0_rightOf_8
set_option maxHeartbeats 8000000 in
set_option maxRecDepth 100000 in
theorem c_B_sortOf (l : Launch) (dC : Nat → ClassId) (dI : Nat → Nat → Nat) (cy : Nat → ClassId) (ad : Nat → Nat) (sz : Nat) (a0 : Int32) (q : Int32) (h : f_B_sortOf a0 = some q) : Met l yX0_sortOf wsX0_sortOf ({ frames := 0, cells := 0, slots := 0, locals := 0 } : Room) (cP (dC, dI) cy [.int a0] (zzE ad cy) sz) (cQi (dC, dI) cy q (zzE ad cy) (va_A (zzE ad cy) sz)) 0 0 (va_A (zzE ad cy) sz) := by
  refine Met.ofW (cc := cX0_sortOf) (maxL := 1) (ret := (some .int)) (by decide) rfl ?_
  intro p e s m args below meth c s₁ B hml hv
  obtain ⟨hav, hsz, hP, hK, hD0, hN⟩ := hv
  have hx := B.exec
  have hb := B.bytes
  have hr := B.returns
  have hts := atoms_spec (ws := wsX0_sortOf) B.pre
  have hown : s.vm.findClass RX0 = some m.cls := findClass_of_methodNamed B.named
  have hlocks := B.notSynchronized
  subst hsz
  have hD := hD0.self (sz := s.heap.size)
  generalize hAe : va_A (zzE ad cy) s.heap.size = A at hD ⊢
  have hA : ∀ q : Nat, s.heap.size ≤ q → A q := fun q h => by rw [← hAe]; exact Or.inr h
  have hS : va_S A s.heap s.heap [] := va_S.rf
  generalize hWQ : (zzE ad cy) = WQ
  generalize hQQ : MQ below (cQi (dC, dI) cy q WQ A) args s 0 0 A = QQ
  have hl := lv_entry ([.int a0] : List Value) (n := 1) (Nat.le_of_ble_eq_true rfl)
  have hfr := lg_entry_eq m ([.int a0] : List Value) 1
  rw [← hav] at hfr
  rw [hfr]
  clear hfr hav
  generalize (lg_sl ([.int a0] : List Value) ++ List.replicate (1 - (lg_sl ([.int a0] : List Value)).length) Slot.unset).toArray = ls at hl ⊢
  have hl : lv_has ls 1 [(0, .int a0)] := hl
  refine (?_ : ∀ (H : Heap) (locs : List Loc), va_P (dC, dI) vwCl (zzE ad cy) H → va_D A (zzE ad cy) → va_S A s.heap H locs → W p l e ({ frames := 0, cells := 0, slots := 0, locals := 0 } : Room) s m args below meth c H locs 0 0 QQ (F0 m 0 ls [])) s.heap [] hP hD hS
  clear hP hD hS
  intro H locs hP hD hS
  unfold f_B_sortOf at h
  refine lv_iload_n hx hb dX0_sortOf_0 rfl (lv_at hl 0 rfl) ?_
  refine lv_sipush (v := 255) hx hb dX0_sortOf_1 (by decide) ?_
  refine lv_iand hx hb dX0_sortOf_4 ?_
  have h' := Option.some.inj h
  rw [← hQQ]
  exact W.iret (v := (a0 &&& (255 : Int32))) hx hb hr (fun t ht hW => ⟨⟨(a0 &&& (255 : Int32)), (), rfl, by rw [← h'], by rw [← hWQ, ht]; exact hP, va_K.moved hW.alike hK⟩, hS.F ht⟩) hS.2.2 dX0_sortOf_5
set_option maxHeartbeats 8000000 in
set_option maxRecDepth 100000 in
theorem c_K_broken (l : Launch) (dC : Nat → ClassId) (dI : Nat → Nat → Nat) (cy : Nat → ClassId) (ad : Nat → Nat) (sz : Nat) (a1 : Int32) (a2 : Int32) (iK : Nat → Int32) (lK : Nat → Nat → Int64) (aK : Nat → Nat → Int32) (iB : Nat → Int32) (lB : Nat → Nat → Int64) (aB : Nat → Nat → Int32) (iC : Nat → Int32) (aC : Nat → Nat → Int32) (q : Int64) (h : f_K_broken a1 a2 (lK 3) = some q) : Met l yX2_broken wsX2_broken ({ frames := 1, cells := 0, slots := 0, locals := 22 } : Room) (cP (dC, dI) cy [.ref (ad 0), .int a1, .int a2] (zzK ad cy (ad 11) (ad 18) iK lK aK iB lB aB iC aC) sz) (cQl (dC, dI) cy q (zzK ad cy (ad 11) (ad 18) iK lK aK iB lB aB iC aC) (va_A (zzK ad cy (ad 11) (ad 18) iK lK aK iB lB aB iC aC) sz)) 0 0 (va_A (zzK ad cy (ad 11) (ad 18) iK lK aK iB lB aB iC aC) sz) := by
  refine Met.ofW (cc := cX2_broken) (maxL := 7) (ret := (some .long)) (by decide) rfl ?_
  intro p e s m args below meth c s₁ B hml hv
  obtain ⟨hav, hsz, hP, hK, hD0, hN⟩ := hv
  have hx := B.exec
  have hb := B.bytes
  have hr := B.returns
  have hts := atoms_spec (ws := wsX2_broken) B.pre
  have hown : s.vm.findClass RX2 = some m.cls := findClass_of_methodNamed B.named
  have hlocks := B.notSynchronized
  subst hsz
  have hD := hD0.self (sz := s.heap.size)
  generalize hAe : va_A (zzK ad cy (ad 11) (ad 18) iK lK aK iB lB aB iC aC) s.heap.size = A at hD ⊢
  have hA : ∀ q : Nat, s.heap.size ≤ q → A q := fun q h => by rw [← hAe]; exact Or.inr h
  have hS : va_S A s.heap s.heap [] := va_S.rf
  generalize hWQ : (zzK ad cy (ad 11) (ad 18) iK lK aK iB lB aB iC aC) = WQ
  generalize hQQ : MQ below (cQl (dC, dI) cy q WQ A) args s 0 0 A = QQ
  have hl := lv_entry ([.ref (ad 0), .int a1, .int a2] : List Value) (n := 7) (Nat.le_of_ble_eq_true rfl)
  have hfr := lg_entry_eq m ([.ref (ad 0), .int a1, .int a2] : List Value) 7
  rw [← hav] at hfr
  rw [hfr]
  clear hfr hav
  generalize (lg_sl ([.ref (ad 0), .int a1, .int a2] : List Value) ++ List.replicate (7 - (lg_sl ([.ref (ad 0), .int a1, .int a2] : List Value)).length) Slot.unset).toArray = ls at hl ⊢
  have hl : lv_has ls 7 [(0, .ref (ad 0)), (1, .int a1), (2, .int a2)] := hl
  have kc88 := hts _ (List.mem_cons_of_mem _ m_kl_X2_88)
  refine (?_ : ∀ (H : Heap) (locs : List Loc), va_P (dC, dI) vwCl (zzK ad cy (ad 11) (ad 18) iK lK aK iB lB aB iC aC) H → va_D A (zzK ad cy (ad 11) (ad 18) iK lK aK iB lB aB iC aC) → va_S A s.heap H locs → W p l e ({ frames := 1, cells := 0, slots := 0, locals := 22 } : Room) s m args below meth c H locs 0 0 QQ (F0 m 0 ls [])) s.heap [] hP hD hS
  clear hP hD hS
  intro H locs hP hD hS
  unfold f_K_broken at h
  refine lv_aload_n hx hb dX2_broken_0 rfl (lv_at hl 0 rfl) ?_
  refine lv_iload_n hx hb dX2_broken_1 rfl (lv_at hl 1 rfl) ?_
  obtain ⟨q2, e2, h⟩ := g_b h
  refine callSi (cc := cX2_broken) (ws' := zzK ad cy (ad 11) (ad 18) iK lK aK iB lB aB iC aC) (As := [.int a1]) (rest := [.ref (ad 0)]) ⟨hx, hb, hml, hown, hts⟩ (c_B_leftOf l dC dI cy ad H.size a1 q2 e2) (va_cwS 1 hts (goodS m_ml_X2_160 m_st_X0_leftOf m_in_X0 m_cd_X0_leftOf) rfl rfl rfl (by decide +kernel) ⟨Nat.le_of_ble_eq_true rfl, Nat.le_of_ble_eq_true rfl⟩) hN hK hP hD hS hA [] [none, none, none, none, none, none, none, none, none, none, none, none, none, none, none, none, none, none, none, none, none, none, none, none, none, none, none] rfl rfl rfl rfl rfl rfl rfl hl.1 rfl (Nat.le_of_ble_eq_true rfl) dX2_broken_2 ⟨Nat.zero_le _, Nat.zero_le _⟩ (fun H locs hP hD hS => ?_)
  refine lv_iload_n hx hb dX2_broken_5 rfl (lv_at hl 2 rfl) ?_
  obtain ⟨q6, e6, h⟩ := g_b h
  refine callVls (cc := cX2_broken) (w1 := zzK ad cy (ad 11) (ad 18) iK lK aK iB lB aB iC aC) (As := [.int q2, .int a2]) (rest := []) ⟨hx, hb, hml, hown, hts⟩ (c_K_truthOf l dC dI cy ad H.size q2 a2 iK lK aK iB lB aB iC aC q6 e6) (cwV 2 hts (goodV m_ml_X2_81 m_im_X2_truthOf m_se_X2_truthOf m_in_X2 m_cd_X2_truthOf) rfl rfl rfl (by decide +kernel) ⟨Nat.le_of_ble_eq_true rfl, Nat.le_of_ble_eq_true rfl⟩) hN hK hP hD hS hA rfl 0 rfl rfl rfl hl.1 rfl (Nat.le_of_ble_eq_true rfl) dX2_broken_6 ⟨Nat.zero_le _, Nat.zero_le _⟩ (fun H locs hP hD hS => ?_)
  refine lv_lstore_n (lv' := [(3, .long q6), (0, .ref (ad 0)), (1, .int a1), (2, .int a2)]) hx hb dX2_broken_9 rfl hl (by decide) rfl (fun ls hl => ?_)
  refine lv_aload_n hx hb dX2_broken_10 rfl (lv_at hl 1 rfl) ?_
  refine lv_iload_n hx hb dX2_broken_11 rfl (lv_at hl 2 rfl) ?_
  obtain ⟨q12, e12, h⟩ := g_b h
  refine callSi (cc := cX2_broken) (ws' := zzK ad cy (ad 11) (ad 18) iK lK aK iB lB aB iC aC) (As := [.int a1]) (rest := [.ref (ad 0)]) ⟨hx, hb, hml, hown, hts⟩ (c_B_rightOf l dC dI cy ad H.size a1 q12 e12) (va_cwS 1 hts (goodS m_ml_X2_161 m_st_X0_rightOf m_in_X0 m_cd_X0_rightOf) rfl rfl rfl (by decide +kernel) ⟨Nat.le_of_ble_eq_true rfl, Nat.le_of_ble_eq_true rfl⟩) hN hK hP hD hS hA [] [none, none, none, none, none, none, none, none, none, none, none, none, none, none, none, none, none, none, none, none, none, none, none, none, none, none, none] rfl rfl rfl rfl rfl rfl rfl hl.1 rfl (Nat.le_of_ble_eq_true rfl) dX2_broken_12 ⟨Nat.zero_le _, Nat.zero_le _⟩ (fun H locs hP hD hS => ?_)
  refine lv_iload_n hx hb dX2_broken_15 rfl (lv_at hl 3 rfl) ?_
  obtain ⟨q16, e16, h⟩ := g_b h
  refine callVls (cc := cX2_broken) (w1 := zzK ad cy (ad 11) (ad 18) iK lK aK iB lB aB iC aC) (As := [.int q12, .int a2]) (rest := []) ⟨hx, hb, hml, hown, hts⟩ (c_K_truthOf l dC dI cy ad H.size q12 a2 iK lK aK iB lB aB iC aC q16 e16) (cwV 2 hts (goodV m_ml_X2_81 m_im_X2_truthOf m_se_X2_truthOf m_in_X2 m_cd_X2_truthOf) rfl rfl rfl (by decide +kernel) ⟨Nat.le_of_ble_eq_true rfl, Nat.le_of_ble_eq_true rfl⟩) hN hK hP hD hS hA rfl 0 rfl rfl rfl hl.1 rfl (Nat.le_of_ble_eq_true rfl) dX2_broken_16 ⟨Nat.zero_le _, Nat.zero_le _⟩ (fun H locs hP hD hS => ?_)
  refine lv_lstore (lv' := [(5, .long q16), (3, .long q6), (0, .ref (ad 0)), (1, .int a1), (2, .int a2)]) hx hb dX2_broken_19 hl (by decide) rfl (fun ls hl => ?_)
  refine lv_iload_n hx hb dX2_broken_21 rfl (lv_at hl 3 rfl) ?_
  obtain ⟨q22, e22, h⟩ := g_b h
  refine callSi (cc := cX2_broken) (ws' := zzK ad cy (ad 11) (ad 18) iK lK aK iB lB aB iC aC) (As := [.int a1]) (rest := []) ⟨hx, hb, hml, hown, hts⟩ (c_B_sortOf l dC dI cy ad H.size a1 q22 e22) (va_cwS 1 hts (goodS m_ml_X2_162 m_st_X0_sortOf m_in_X0 m_cd_X0_sortOf) rfl rfl rfl (by decide +kernel) ⟨Nat.le_of_ble_eq_true rfl, Nat.le_of_ble_eq_true rfl⟩) hN hK hP hD hS hA [] [none, none, none, none, none, none, none, none, none, none, none, none, none, none, none, none, none, none, none, none, none, none, none, none, none, none, none] rfl rfl rfl rfl rfl rfl rfl hl.1 rfl (Nat.le_of_ble_eq_true rfl) dX2_broken_22 ⟨Nat.zero_le _, Nat.zero_le _⟩ (fun H locs hP hD hS => ?_)
  refine lv_iconst (v := 1) hx hb dX2_broken_25 (by decide) ?_
  refine lv_icmp_ne (tgt := 36) hx hb dX2_broken_26 (by decide) (fun cz => ?_) (fun cz => ?_)
  · have h := g_f h cz
    refine lv_lload_n hx hb dX2_broken_36 rfl (lv_at hl 1 rfl) ?_
    refine lv_lload hx hb dX2_broken_37 (lv_at hl 0 rfl) ?_
    refine lv_ldc2 (v := (-1)) hx hb hown kc88 dX2_broken_39 ?_
    refine lv_lxor hx hb dX2_broken_42 ?_
    refine lv_land hx hb dX2_broken_43 ?_
    have h' := Option.some.inj h
    rw [← hQQ]
    exact W.lret (v := (q6 &&& (q16 ^^^ (-1 : Int64)))) hx hb hr (fun t ht hW => ⟨⟨(q6 &&& (q16 ^^^ (-1 : Int64))), (), rfl, by rw [← h'], by rw [← hWQ, ht]; exact hP, va_K.moved hW.alike hK⟩, hS.F ht⟩) hS.2.2 dX2_broken_44
  · have h := g_t h cz
    refine lv_lload_n hx hb dX2_broken_29 rfl (lv_at hl 1 rfl) ?_
    refine lv_lload hx hb dX2_broken_30 (lv_at hl 0 rfl) ?_
    refine lv_lxor hx hb dX2_broken_32 ?_
    refine lv_goto (tgt := 44) hx hb dX2_broken_33 (by decide) ?_
    have h' := Option.some.inj h
    rw [← hQQ]
    exact W.lret (v := (q6 ^^^ q16)) hx hb hr (fun t ht hW => ⟨⟨(q6 ^^^ q16), (), rfl, by rw [← h'], by rw [← hWQ, ht]; exact hP, va_K.moved hW.alike hK⟩, hS.F ht⟩) hS.2.2 dX2_broken_44
set_option maxHeartbeats 8000000 in
set_option maxRecDepth 100000 in
theorem c_K_takeFair_fair (l : Launch) (dC : Nat → ClassId) (dI : Nat → Nat → Nat) (cy : Nat → ClassId) (ad : Nat → Nat) (sz : Nat) (N : Nat) (a1 : Int32) (iK : Nat → Int32) (lK : Nat → Nat → Int64) (aK : Nat → Nat → Int32) (iB : Nat → Int32) (lB : Nat → Nat → Int64) (aB : Nat → Nat → Int32) (iC : Nat → Int32) (aC : Nat → Nat → Int32) (q : (Nat → Int64)) (h : f_K_takeFair_fair N a1 (iB 9) (aB 8) (iK 2) (lK 3) (lK 8) = some q) : Met l yX2_takeFair wsX2_takeFair ({ frames := 2, cells := 0, slots := 0, locals := 48 } : Room) (cP (dC, dI) cy [.ref (ad 0), .int a1, .ref (ad 5)] (zzK ad cy (ad 11) (ad 18) iK lK aK iB lB aB iC aC) sz) (cQv (dC, dI) cy (zzK ad cy (ad 11) (ad 18) iK (us lK [(8, q)]) aK iB lB aB iC aC) (va_A (zzK ad cy (ad 11) (ad 18) iK lK aK iB lB aB iC aC) sz)) 0 0 (va_A (zzK ad cy (ad 11) (ad 18) iK lK aK iB lB aB iC aC) sz) := by
  refine Met.ofW (cc := cX2_takeFair) (maxL := 8) (ret := none) (by decide) rfl ?_
  intro p e s m args below meth c s₁ B hml hv
  obtain ⟨hav, hsz, hP, hK, hD0, hN⟩ := hv
  have hx := B.exec
  have hb := B.bytes
  have hr := B.returns
  have hts := atoms_spec (ws := wsX2_takeFair) B.pre
  have hown : s.vm.findClass RX2 = some m.cls := findClass_of_methodNamed B.named
  have hlocks := B.notSynchronized
  subst hsz
  have hD := hD0.self (sz := s.heap.size)
  generalize hAe : va_A (zzK ad cy (ad 11) (ad 18) iK lK aK iB lB aB iC aC) s.heap.size = A at hD ⊢
  have hA : ∀ q : Nat, s.heap.size ≤ q → A q := fun q h => by rw [← hAe]; exact Or.inr h
  have hS : va_S A s.heap s.heap [] := va_S.rf
  generalize hWQ : (zzK ad cy (ad 11) (ad 18) iK (us lK [(8, q)]) aK iB lB aB iC aC) = WQ
  generalize hQQ : MQ below (cQv (dC, dI) cy WQ A) args s 0 0 A = QQ
  have hl := lv_entry ([.ref (ad 0), .int a1, .ref (ad 5)] : List Value) (n := 8) (Nat.le_of_ble_eq_true rfl)
  have hfr := lg_entry_eq m ([.ref (ad 0), .int a1, .ref (ad 5)] : List Value) 8
  rw [← hav] at hfr
  rw [hfr]
  clear hfr hav
  generalize (lg_sl ([.ref (ad 0), .int a1, .ref (ad 5)] : List Value) ++ List.replicate (8 - (lg_sl ([.ref (ad 0), .int a1, .ref (ad 5)] : List Value)).length) Slot.unset).toArray = ls at hl ⊢
  have hl : lv_has ls 8 [(0, .ref (ad 0)), (1, .int a1), (2, .ref (ad 5))] := hl
  have kf44 := hts _ (List.mem_cons_of_mem _ m_fl_X2_44)
  have ki2 := (fun w h => List.mem_cons_of_mem _ (i_X2 w h) : ∀ w ∈ u_ws RX2 TX2 15, w ∈ wsX2_takeFair)
  have kf93 := hts _ (List.mem_cons_of_mem _ m_fl_X2_93)
  have ki0 := (fun w h => List.mem_cons_of_mem _ (i_X0 w h) : ∀ w ∈ u_ws RX0 TX0 15, w ∈ wsX2_takeFair)
  have kc88 := hts _ (List.mem_cons_of_mem _ m_kl_X2_88)
  have kf67 := hts _ (List.mem_cons_of_mem _ m_fl_X2_67)
  refine (?_ : ∀ (H : Heap) (locs : List Loc), va_P (dC, dI) vwCl (zzK ad cy (ad 11) (ad 18) iK lK aK iB lB aB iC aC) H → va_D A (zzK ad cy (ad 11) (ad 18) iK lK aK iB lB aB iC aC) → va_S A s.heap H locs → W p l e ({ frames := 2, cells := 0, slots := 0, locals := 48 } : Room) s m args below meth c H locs 0 0 QQ (F0 m 0 ls [])) s.heap [] hP hD hS
  clear hP hD hS
  have B52 : ∀ (n : Nat) (v1 : Int32) (v3 : Int32) (x_lK8 : Nat → Int64) (k2 : Int32 → (Nat → Int64) → Option ((Nat → Int64))) (hk2 : ∀ (v3' : Int32) (x_lK8' : Nat → Int64) (H : Heap) (locs : List Loc) (ls : Array Slot), k2 v3' x_lK8' = some q → va_P (dC, dI) vwCl (zzK ad cy (ad 11) (ad 18) iK (us lK [(8, x_lK8')]) aK iB lB aB iC aC) H → va_D A (zzK ad cy (ad 11) (ad 18) iK (us lK [(8, x_lK8')]) aK iB lB aB iC aC) → va_S A s.heap H locs → lv_has ls 8 [(0, .ref (ad 0)), (1, .int v1), (2, .ref (ad 5)), (3, .int v3')] → W p l e ({ frames := 2, cells := 0, slots := 0, locals := 48 } : Room) s m args below meth c H locs 0 0 QQ (F0 m 2 ls [])) (v5 : Int64) (v7 : Int32) (H : Heap) (locs : List Loc) (ls : Array Slot), f_K_takeFair_fair_52 N (iB 9) (aB 8) (iK 2) (lK 3) (lK 8) k2 v1 v3 x_lK8 n v5 v7 = some q → va_P (dC, dI) vwCl (zzK ad cy (ad 11) (ad 18) iK (us lK [(8, x_lK8)]) aK iB lB aB iC aC) H → va_D A (zzK ad cy (ad 11) (ad 18) iK (us lK [(8, x_lK8)]) aK iB lB aB iC aC) → va_S A s.heap H locs → lv_has ls 8 [(0, .ref (ad 0)), (1, .int v1), (2, .ref (ad 5)), (3, .int v3), (5, .long v5), (7, .int v7)] → W p l e ({ frames := 2, cells := 0, slots := 0, locals := 48 } : Room) s m args below meth c H locs 0 0 QQ (F0 m 52 ls []) := by
    intro n
    induction n with
    | zero =>
      intro v1 v3 x_lK8 k2 hk2 v5 v7 H locs ls h hP hD hS hl
      rw [f_K_takeFair_fair_52] at h
      cases h
    | succ n ih =>
      intro v1 v3 x_lK8 k2 hk2 v5 v7 H locs ls h hP hD hS hl
      rw [f_K_takeFair_fair_52] at h
      refine lv_iload hx hb dX2_takeFair_52 (lv_at hl 5 rfl) ?_
      refine lv_aload_n hx hb dX2_takeFair_54 rfl (lv_at hl 0 rfl) ?_
      refine va_get (D := (dC, dI)) (ci := 2) (v := .ref (ad 11)) (C := RX2) (T := TX2) (N := 15) hx hb hts ki2 hown hK hP 0 rfl rfl 0 (by decide) kf44 (fun _ h9 => h9) rfl dX2_takeFair_55 ?_
      refine va_get (D := (dC, dI)) (ci := 0) (v := .int (iB 9)) (C := RX0) (T := TX0) (N := 15) hx hb hts ki0 hown hK hP 11 rfl rfl 9 (by decide) kf93 (fun _ h9 => h9) rfl dX2_takeFair_58 ?_
      refine lv_icmp_ge (tgt := 103) hx hb dX2_takeFair_61 (by decide) (fun cz => ?_) (fun cz => ?_)
      · have h := g_t h cz
        refine lv_aload_n hx hb dX2_takeFair_103 rfl (lv_at hl 2 rfl) ?_
        refine lv_iload_n hx hb dX2_takeFair_104 rfl (lv_at hl 3 rfl) ?_
        refine lv_lload hx hb dX2_takeFair_105 (lv_at hl 4 rfl) ?_
        obtain ⟨g_22, h⟩ := g_n h
        refine va_last (f := x_lK8) hx hb hK hP hD hS 5 2 rfl rfl g_22 dX2_takeFair_107 (fun H locs hP hD hS => ?_)
        have hP : va_P (dC, dI) vwCl (zzK ad cy (ad 11) (ad 18) iK (us lK [(8, (vp_updL x_lK8 v3.toNatClampNeg v5))]) aK iB lB aB iC aC) H := Eq.mp (congrArg (fun w => va_P (dC, dI) vwCl w H) (stK_lK8 ad cy (ad 11) (ad 18) iK lK aK iB lB aB iC aC [(8, x_lK8)] ((vp_updL x_lK8 v3.toNatClampNeg v5)))) hP
        have hD : va_D A (zzK ad cy (ad 11) (ad 18) iK (us lK [(8, (vp_updL x_lK8 v3.toNatClampNeg v5))]) aK iB lB aB iC aC) := Eq.mp (congrArg (fun w => va_D A w) (stK_lK8 ad cy (ad 11) (ad 18) iK lK aK iB lB aB iC aC [(8, x_lK8)] ((vp_updL x_lK8 v3.toNatClampNeg v5)))) hD
        refine lv_iinc (v := (v3 + (1 : Int32))) (lv' := [(3, .int ((v3 + (1 : Int32)))), (0, .ref (ad 0)), (1, .int v1), (2, .ref (ad 5)), (5, .long v5), (7, .int v7)]) hx hb dX2_takeFair_108 hl (k := 3) rfl rfl (by decide) rfl (fun ls hl => ?_)
        refine lv_goto (tgt := 2) hx hb dX2_takeFair_111 (by decide) ?_
        exact hk2 ((v3 + (1 : Int32))) ((vp_updL x_lK8 v3.toNatClampNeg v5)) H locs ls h hP hD hS (lv_sub hl [1, 2, 3, 0] rfl)
      · have h := g_f h cz
        refine lv_iload_n hx hb dX2_takeFair_64 rfl (lv_at hl 1 rfl) ?_
        refine lv_iload hx hb dX2_takeFair_65 (lv_at hl 5 rfl) ?_
        refine lv_ishr hx hb dX2_takeFair_67 ?_
        refine lv_iconst (v := 1) hx hb dX2_takeFair_68 (by decide) ?_
        refine lv_iand hx hb dX2_takeFair_69 ?_
        refine lv_iconst (v := 1) hx hb dX2_takeFair_70 (by decide) ?_
        refine lv_icmp_ne (tgt := 97) hx hb dX2_takeFair_71 (by decide) (fun cz => ?_) (fun cz => ?_)
        · have h := g_f h cz
          refine lv_iinc (v := (v7 + (1 : Int32))) (lv' := [(7, .int ((v7 + (1 : Int32)))), (0, .ref (ad 0)), (1, .int v1), (2, .ref (ad 5)), (3, .int v3), (5, .long v5)]) hx hb dX2_takeFair_97 hl (k := 5) rfl rfl (by decide) rfl (fun ls hl => ?_)
          refine lv_goto (tgt := 52) hx hb dX2_takeFair_100 (by decide) ?_
          exact ih v1 v3 x_lK8 k2 hk2 v5 ((v7 + (1 : Int32))) H locs ls h hP hD hS (lv_sub hl [1, 2, 3, 4, 5, 0] rfl)
        · have h := g_t h cz
          refine lv_lload hx hb dX2_takeFair_74 (lv_at hl 4 rfl) ?_
          refine lv_aload_n hx hb dX2_takeFair_76 rfl (lv_at hl 0 rfl) ?_
          refine lv_aload_n hx hb dX2_takeFair_77 rfl (lv_at hl 0 rfl) ?_
          refine va_get (D := (dC, dI)) (ci := 2) (v := .ref (ad 11)) (C := RX2) (T := TX2) (N := 15) hx hb hts ki2 hown hK hP 0 rfl rfl 0 (by decide) kf44 (fun _ h9 => h9) rfl dX2_takeFair_78 ?_
          refine lv_iload hx hb dX2_takeFair_81 (lv_at hl 5 rfl) ?_
          obtain ⟨q83, e83, h⟩ := g_b h
          refine callVi (cc := cX2_takeFair) (ws' := zzK ad cy (ad 11) (ad 18) iK (us lK [(8, x_lK8)]) aK iB lB aB iC aC) (As := [.int v7]) (rest := [.ref (ad 0), .long v5]) ⟨hx, hb, hml, hown, hts⟩ (c_B_ruleStatement l dC dI cy (fun i => ad (i + 11)) H.size v7 iB lB aB iC aC q83 e83) (cwV 1 hts (goodV m_ml_X2_154 m_im_X0_ruleStatement m_se_X0_ruleStatement m_in_X0 m_cd_X0_ruleStatement) rfl rfl rfl (by decide +kernel) ⟨Nat.le_of_ble_eq_true rfl, Nat.le_of_ble_eq_true rfl⟩) hN hK hP hD hS hA [11, 12, 13, 14, 15, 16, 17, 18, 19, 20, 21, 22, 23, 24, 25, 26] [none, none, none, none, none, none, none, none, none, none, none, some 0, some 1, some 2, some 3, some 4, some 5, some 6, some 7, some 8, some 9, some 10, some 11, some 12, some 13, some 14, some 15] rfl rfl rfl rfl rfl rfl 11 rfl rfl rfl hl.1 rfl (Nat.le_of_ble_eq_true rfl) dX2_takeFair_83 ⟨Nat.zero_le _, Nat.zero_le _⟩ (fun H locs hP hD hS => ?_)
          refine lv_iload_n hx hb dX2_takeFair_86 rfl (lv_at hl 3 rfl) ?_
          obtain ⟨q87, e87, h⟩ := g_b h
          refine callVls (cc := cX2_takeFair) (w1 := zzK ad cy (ad 11) (ad 18) iK (us lK [(8, x_lK8)]) aK iB lB aB iC aC) (As := [.int q83, .int v3]) (rest := [.long v5]) ⟨hx, hb, hml, hown, hts⟩ (c_K_broken l dC dI cy ad H.size q83 v3 iK ((us lK [(8, x_lK8)])) aK iB lB aB iC aC q87 e87) (cwV 2 hts (goodV m_ml_X2_157 m_im_X2_broken m_se_X2_broken m_in_X2 m_cd_X2_broken) rfl rfl rfl (by decide +kernel) ⟨Nat.le_of_ble_eq_true rfl, Nat.le_of_ble_eq_true rfl⟩) hN hK hP hD hS hA rfl 0 rfl rfl rfl hl.1 rfl (Nat.le_of_ble_eq_true rfl) dX2_takeFair_87 ⟨Nat.zero_le _, Nat.zero_le _⟩ (fun H locs hP hD hS => ?_)
          refine lv_ldc2 (v := (-1)) hx hb hown kc88 dX2_takeFair_90 ?_
          refine lv_lxor hx hb dX2_takeFair_93 ?_
          refine lv_land hx hb dX2_takeFair_94 ?_
          refine lv_lstore (lv' := [(5, .long ((v5 &&& (q87 ^^^ (-1 : Int64))))), (0, .ref (ad 0)), (1, .int v1), (2, .ref (ad 5)), (3, .int v3), (7, .int v7)]) hx hb dX2_takeFair_95 hl (by decide) rfl (fun ls hl => ?_)
          refine lv_iinc (v := (v7 + (1 : Int32))) (lv' := [(7, .int ((v7 + (1 : Int32)))), (5, .long ((v5 &&& (q87 ^^^ (-1 : Int64))))), (0, .ref (ad 0)), (1, .int v1), (2, .ref (ad 5)), (3, .int v3)]) hx hb dX2_takeFair_97 hl (k := 5) rfl rfl (by decide) rfl (fun ls hl => ?_)
          refine lv_goto (tgt := 52) hx hb dX2_takeFair_100 (by decide) ?_
          exact ih v1 v3 x_lK8 k2 hk2 ((v5 &&& (q87 ^^^ (-1 : Int64)))) ((v7 + (1 : Int32))) H locs ls h hP hD hS (lv_sub hl [2, 3, 4, 5, 1, 0] rfl)
  have B2 : ∀ (n : Nat) (v1 : Int32) (v3 : Int32) (x_lK8 : Nat → Int64) (H : Heap) (locs : List Loc) (ls : Array Slot), f_K_takeFair_fair_2 N (iB 9) (aB 8) (iK 2) (lK 3) (lK 8) v1 n v3 x_lK8 = some q → va_P (dC, dI) vwCl (zzK ad cy (ad 11) (ad 18) iK (us lK [(8, x_lK8)]) aK iB lB aB iC aC) H → va_D A (zzK ad cy (ad 11) (ad 18) iK (us lK [(8, x_lK8)]) aK iB lB aB iC aC) → va_S A s.heap H locs → lv_has ls 8 [(0, .ref (ad 0)), (1, .int v1), (2, .ref (ad 5)), (3, .int v3)] → W p l e ({ frames := 2, cells := 0, slots := 0, locals := 48 } : Room) s m args below meth c H locs 0 0 QQ (F0 m 2 ls []) := by
    intro n
    induction n with
    | zero =>
      intro v1 v3 x_lK8 H locs ls h hP hD hS hl
      rw [f_K_takeFair_fair_2] at h
      cases h
    | succ n ih =>
      intro v1 v3 x_lK8 H locs ls h hP hD hS hl
      rw [f_K_takeFair_fair_2] at h
      refine lv_iload_n hx hb dX2_takeFair_2 rfl (lv_at hl 3 rfl) ?_
      refine lv_bipush (v := 8) hx hb dX2_takeFair_3 (by decide) ?_
      refine lv_icmp_ge (tgt := 114) hx hb dX2_takeFair_5 (by decide) (fun cz => ?_) (fun cz => ?_)
      · have h := g_t h cz
        have h' := Option.some.inj h
        rw [← hQQ]
        exact W.vret hx hb hr (fun t ht hW => ⟨⟨(), rfl, trivial, by rw [← hWQ, ← h', ht]; exact hP, va_K.moved hW.alike hK⟩, hS.F ht⟩) hS.2.2 dX2_takeFair_114
      · have h := g_f h cz
        refine lv_aload_n hx hb dX2_takeFair_8 rfl (lv_at hl 0 rfl) ?_
        refine va_get (D := (dC, dI)) (ci := 2) (v := .int (iK 2)) (C := RX2) (T := TX2) (N := 15) hx hb hts ki2 hown hK hP 0 rfl rfl 2 (by decide) kf67 (fun _ h9 => h9) rfl dX2_takeFair_9 ?_
        refine lv_bipush (v := 64) hx hb dX2_takeFair_12 (by decide) ?_
        refine lv_iload_n hx hb dX2_takeFair_14 rfl (lv_at hl 3 rfl) ?_
        refine lv_imul hx hb dX2_takeFair_15 ?_
        refine lv_isub hx hb dX2_takeFair_16 ?_
        refine lv_istore (lv' := [(4, .int (((iK 2) - ((64 : Int32) * v3)))), (0, .ref (ad 0)), (1, .int v1), (2, .ref (ad 5)), (3, .int v3)]) hx hb dX2_takeFair_17 hl (by decide) rfl (fun ls hl => ?_)
        refine lv_iload hx hb dX2_takeFair_19 (lv_at hl 0 rfl) ?_
        refine lv_bipush (v := 64) hx hb dX2_takeFair_21 (by decide) ?_
        refine lv_icmp_lt (tgt := 32) hx hb dX2_takeFair_23 (by decide) (fun cz => ?_) (fun cz => ?_)
        · have h := g_t h cz
          refine lv_iload hx hb dX2_takeFair_32 (lv_at hl 0 rfl) ?_
          refine lv_if_gt (tgt := 41) hx hb dX2_takeFair_34 (by decide) (fun cz => ?_) (fun cz => ?_)
          · have h := g_t h cz
            refine lv_lconst (v := 1) hx hb dX2_takeFair_41 (by decide) ?_
            refine lv_iload hx hb dX2_takeFair_42 (lv_at hl 0 rfl) ?_
            refine lv_lshl (v := ((1 : Int64) <<< ((((iK 2) - ((64 : Int32) * v3))).toInt64 &&& 63))) hx hb dX2_takeFair_44 rfl ?_
            refine lv_lconst (v := 1) hx hb dX2_takeFair_45 (by decide) ?_
            refine lv_lsub hx hb dX2_takeFair_46 ?_
            refine lv_lstore (lv' := [(5, .long ((((1 : Int64) <<< ((((iK 2) - ((64 : Int32) * v3))).toInt64 &&& 63)) - (1 : Int64)))), (4, .int (((iK 2) - ((64 : Int32) * v3)))), (0, .ref (ad 0)), (1, .int v1), (2, .ref (ad 5)), (3, .int v3)]) hx hb dX2_takeFair_47 hl (by decide) rfl (fun ls hl => ?_)
            refine lv_iconst (v := 0) hx hb dX2_takeFair_49 (by decide) ?_
            refine lv_istore (lv' := [(7, .int ((0 : Int32))), (5, .long ((((1 : Int64) <<< ((((iK 2) - ((64 : Int32) * v3))).toInt64 &&& 63)) - (1 : Int64)))), (4, .int (((iK 2) - ((64 : Int32) * v3)))), (0, .ref (ad 0)), (1, .int v1), (2, .ref (ad 5)), (3, .int v3)]) hx hb dX2_takeFair_50 hl (by decide) rfl (fun ls hl => ?_)
            exact B52 N v1 v3 x_lK8 (f_K_takeFair_fair_2 N (iB 9) (aB 8) (iK 2) (lK 3) (lK 8) v1 n) (ih v1) ((((1 : Int64) <<< ((((iK 2) - ((64 : Int32) * v3))).toInt64 &&& 63)) - (1 : Int64))) ((0 : Int32)) H locs ls h hP hD hS (lv_sub hl [3, 4, 5, 6, 1, 0] rfl)
          · have h := g_f h cz
            refine lv_lconst (v := 0) hx hb dX2_takeFair_37 (by decide) ?_
            refine lv_goto (tgt := 47) hx hb dX2_takeFair_38 (by decide) ?_
            refine lv_lstore (lv' := [(5, .long ((0 : Int64))), (4, .int (((iK 2) - ((64 : Int32) * v3)))), (0, .ref (ad 0)), (1, .int v1), (2, .ref (ad 5)), (3, .int v3)]) hx hb dX2_takeFair_47 hl (by decide) rfl (fun ls hl => ?_)
            refine lv_iconst (v := 0) hx hb dX2_takeFair_49 (by decide) ?_
            refine lv_istore (lv' := [(7, .int ((0 : Int32))), (5, .long ((0 : Int64))), (4, .int (((iK 2) - ((64 : Int32) * v3)))), (0, .ref (ad 0)), (1, .int v1), (2, .ref (ad 5)), (3, .int v3)]) hx hb dX2_takeFair_50 hl (by decide) rfl (fun ls hl => ?_)
            exact B52 N v1 v3 x_lK8 (f_K_takeFair_fair_2 N (iB 9) (aB 8) (iK 2) (lK 3) (lK 8) v1 n) (ih v1) ((0 : Int64)) ((0 : Int32)) H locs ls h hP hD hS (lv_sub hl [3, 4, 5, 6, 1, 0] rfl)
        · have h := g_f h cz
          refine lv_ldc2 (v := (-1)) hx hb hown kc88 dX2_takeFair_26 ?_
          refine lv_goto (tgt := 47) hx hb dX2_takeFair_29 (by decide) ?_
          refine lv_lstore (lv' := [(5, .long ((-1 : Int64))), (4, .int (((iK 2) - ((64 : Int32) * v3)))), (0, .ref (ad 0)), (1, .int v1), (2, .ref (ad 5)), (3, .int v3)]) hx hb dX2_takeFair_47 hl (by decide) rfl (fun ls hl => ?_)
          refine lv_iconst (v := 0) hx hb dX2_takeFair_49 (by decide) ?_
          refine lv_istore (lv' := [(7, .int ((0 : Int32))), (5, .long ((-1 : Int64))), (4, .int (((iK 2) - ((64 : Int32) * v3)))), (0, .ref (ad 0)), (1, .int v1), (2, .ref (ad 5)), (3, .int v3)]) hx hb dX2_takeFair_50 hl (by decide) rfl (fun ls hl => ?_)
          exact B52 N v1 v3 x_lK8 (f_K_takeFair_fair_2 N (iB 9) (aB 8) (iK 2) (lK 3) (lK 8) v1 n) (ih v1) ((-1 : Int64)) ((0 : Int32)) H locs ls h hP hD hS (lv_sub hl [3, 4, 5, 6, 1, 0] rfl)
  intro H locs hP hD hS
  unfold f_K_takeFair_fair at h
  refine lv_iconst (v := 0) hx hb dX2_takeFair_0 (by decide) ?_
  refine lv_istore_n (lv' := [(3, .int ((0 : Int32))), (0, .ref (ad 0)), (1, .int a1), (2, .ref (ad 5))]) hx hb dX2_takeFair_1 rfl hl (by decide) rfl (fun ls hl => ?_)
  exact B2 N a1 ((0 : Int32)) (lK 8) H locs ls h hP hD hS (lv_sub hl [1, 2, 3, 0] rfl)
set_option maxHeartbeats 8000000 in
set_option maxRecDepth 100000 in
theorem c_K_has (l : Launch) (dC : Nat → ClassId) (dI : Nat → Nat → Nat) (cy : Nat → ClassId) (ad : Nat → Nat) (sz : Nat) (ln : Nat) (a1 : Int32) (la : Nat → Int64) (q : Int32) (h : f_K_has ln a1 la = some q) : Met l yX2_has wsX2_has ({ frames := 0, cells := 0, slots := 0, locals := 0 } : Room) (cP (dC, dI) cy [.ref (ad 0), .int a1] (zzA ad cy ln la) sz) (cQi (dC, dI) cy q (zzA ad cy ln la) (va_A (zzA ad cy ln la) sz)) 0 0 (va_A (zzA ad cy ln la) sz) := by
  refine Met.ofW (cc := cX2_has) (maxL := 3) (ret := (some .boolean)) (by decide) rfl ?_
  intro p e s m args below meth c s₁ B hml hv
  obtain ⟨hav, hsz, hP, hK, hD0, hN⟩ := hv
  have hx := B.exec
  have hb := B.bytes
  have hr := B.returns
  have hts := atoms_spec (ws := wsX2_has) B.pre
  have hown : s.vm.findClass RX2 = some m.cls := findClass_of_methodNamed B.named
  have hlocks := B.notSynchronized
  subst hsz
  have hD := hD0.self (sz := s.heap.size)
  generalize hAe : va_A (zzA ad cy ln la) s.heap.size = A at hD ⊢
  have hA : ∀ q : Nat, s.heap.size ≤ q → A q := fun q h => by rw [← hAe]; exact Or.inr h
  have hS : va_S A s.heap s.heap [] := va_S.rf
  generalize hWQ : (zzA ad cy ln la) = WQ
  generalize hQQ : MQ below (cQi (dC, dI) cy q WQ A) args s 0 0 A = QQ
  have hl := lv_entry ([.ref (ad 0), .int a1] : List Value) (n := 3) (Nat.le_of_ble_eq_true rfl)
  have hfr := lg_entry_eq m ([.ref (ad 0), .int a1] : List Value) 3
  rw [← hav] at hfr
  rw [hfr]
  clear hfr hav
  generalize (lg_sl ([.ref (ad 0), .int a1] : List Value) ++ List.replicate (3 - (lg_sl ([.ref (ad 0), .int a1] : List Value)).length) Slot.unset).toArray = ls at hl ⊢
  have hl : lv_has ls 3 [(0, .ref (ad 0)), (1, .int a1)] := hl
  refine (?_ : ∀ (H : Heap) (locs : List Loc), va_P (dC, dI) vwCl (zzA ad cy ln la) H → va_D A (zzA ad cy ln la) → va_S A s.heap H locs → W p l e ({ frames := 0, cells := 0, slots := 0, locals := 0 } : Room) s m args below meth c H locs 0 0 QQ (F0 m 0 ls [])) s.heap [] hP hD hS
  clear hP hD hS
  intro H locs hP hD hS
  unfold f_K_has at h
  refine lv_iload_n hx hb dX2_has_0 rfl (lv_at hl 1 rfl) ?_
  refine lv_bipush (v := 6) hx hb dX2_has_1 (by decide) ?_
  refine lv_ishr hx hb dX2_has_3 ?_
  refine lv_istore_n (lv' := [(2, .int ((a1 >>> ((6 : Int32) &&& 31)))), (0, .ref (ad 0)), (1, .int a1)]) hx hb dX2_has_4 rfl hl (by decide) rfl (fun ls hl => ?_)
  refine lv_iload_n hx hb dX2_has_5 rfl (lv_at hl 0 rfl) ?_
  refine lv_if_lt (tgt := 31) hx hb dX2_has_6 (by decide) (fun cz => ?_) (fun cz => ?_)
  · have h := g_t h cz
    refine lv_iconst (v := 0) hx hb dX2_has_31 (by decide) ?_
    have h' := Option.some.inj h
    rw [← hQQ]
    exact W.zret (v := (0 : Int32)) hx hb hr rfl (fun t ht hW => ⟨⟨(0 : Int32), (), rfl, by rw [← h'], by rw [← hWQ, ht]; exact hP, va_K.moved hW.alike hK⟩, hS.F ht⟩) hS.2.2 dX2_has_32
  · have h := g_f h cz
    refine lv_iload_n hx hb dX2_has_9 rfl (lv_at hl 0 rfl) ?_
    refine lv_aload_n hx hb dX2_has_10 rfl (lv_at hl 1 rfl) ?_
    refine va_alen (v := (Int32.ofNat ln)) hx hb hK hP 0 2 rfl rfl rfl dX2_has_11 ?_
    refine lv_icmp_ge (tgt := 31) hx hb dX2_has_12 (by decide) (fun cz => ?_) (fun cz => ?_)
    · have h := g_t h cz
      refine lv_iconst (v := 0) hx hb dX2_has_31 (by decide) ?_
      have h' := Option.some.inj h
      rw [← hQQ]
      exact W.zret (v := (0 : Int32)) hx hb hr rfl (fun t ht hW => ⟨⟨(0 : Int32), (), rfl, by rw [← h'], by rw [← hWQ, ht]; exact hP, va_K.moved hW.alike hK⟩, hS.F ht⟩) hS.2.2 dX2_has_32
    · have h := g_f h cz
      refine lv_aload_n hx hb dX2_has_15 rfl (lv_at hl 1 rfl) ?_
      refine lv_iload_n hx hb dX2_has_16 rfl (lv_at hl 0 rfl) ?_
      obtain ⟨g_23, h⟩ := g_n h
      refine va_lald (f := la) hx hb hK hP 0 2 rfl rfl g_23 dX2_has_17 ?_
      refine lv_iload_n hx hb dX2_has_18 rfl (lv_at hl 2 rfl) ?_
      refine lv_lshr (v := ((la ((a1 >>> ((6 : Int32) &&& 31))).toNatClampNeg) >>> ((a1).toInt64 &&& 63))) hx hb dX2_has_19 rfl ?_
      refine lv_lconst (v := 1) hx hb dX2_has_20 (by decide) ?_
      refine lv_land hx hb dX2_has_21 ?_
      refine lv_lconst (v := 1) hx hb dX2_has_22 (by decide) ?_
      refine W.lcmp hx hb dX2_has_23 ?_
      refine lv_if_ne (tgt := 31) hx hb dX2_has_24 (by decide) (fun cz => ?_) (fun cz => ?_)
      · have h := g_f h (fun z => cz (lg_cmp0.mpr z))
        refine lv_iconst (v := 0) hx hb dX2_has_31 (by decide) ?_
        have h' := Option.some.inj h
        rw [← hQQ]
        exact W.zret (v := (0 : Int32)) hx hb hr rfl (fun t ht hW => ⟨⟨(0 : Int32), (), rfl, by rw [← h'], by rw [← hWQ, ht]; exact hP, va_K.moved hW.alike hK⟩, hS.F ht⟩) hS.2.2 dX2_has_32
      · have h := g_t h (lg_cmp0.mp cz)
        refine lv_iconst (v := 1) hx hb dX2_has_27 (by decide) ?_
        refine lv_goto (tgt := 32) hx hb dX2_has_28 (by decide) ?_
        have h' := Option.some.inj h
        rw [← hQQ]
        exact W.zret (v := (1 : Int32)) hx hb hr rfl (fun t ht hW => ⟨⟨(1 : Int32), (), rfl, by rw [← h'], by rw [← hWQ, ht]; exact hP, va_K.moved hW.alike hK⟩, hS.F ht⟩) hS.2.2 dX2_has_32
set_option maxHeartbeats 8000000 in
set_option maxRecDepth 100000 in
theorem c_K_put (l : Launch) (dC : Nat → ClassId) (dI : Nat → Nat → Nat) (cy : Nat → ClassId) (ad : Nat → Nat) (sz : Nat) (ln : Nat) (a1 : Int32) (a2 : Int32) (la : Nat → Int64) (q : (Nat → Int64)) (h : f_K_put ln a1 a2 la = some q) : Met l yX2_put wsX2_put ({ frames := 0, cells := 0, slots := 0, locals := 0 } : Room) (cP (dC, dI) cy [.ref (ad 0), .int a1, .int a2] (zzA ad cy ln la) sz) (cQv (dC, dI) cy (zzA ad cy ln q) (va_A (zzA ad cy ln la) sz)) 0 0 (va_A (zzA ad cy ln la) sz) := by
  refine Met.ofW (cc := cX2_put) (maxL := 6) (ret := none) (by decide) rfl ?_
  intro p e s m args below meth c s₁ B hml hv
  obtain ⟨hav, hsz, hP, hK, hD0, hN⟩ := hv
  have hx := B.exec
  have hb := B.bytes
  have hr := B.returns
  have hts := atoms_spec (ws := wsX2_put) B.pre
  have hown : s.vm.findClass RX2 = some m.cls := findClass_of_methodNamed B.named
  have hlocks := B.notSynchronized
  subst hsz
  have hD := hD0.self (sz := s.heap.size)
  generalize hAe : va_A (zzA ad cy ln la) s.heap.size = A at hD ⊢
  have hA : ∀ q : Nat, s.heap.size ≤ q → A q := fun q h => by rw [← hAe]; exact Or.inr h
  have hS : va_S A s.heap s.heap [] := va_S.rf
  generalize hWQ : (zzA ad cy ln q) = WQ
  generalize hQQ : MQ below (cQv (dC, dI) cy WQ A) args s 0 0 A = QQ
  have hl := lv_entry ([.ref (ad 0), .int a1, .int a2] : List Value) (n := 6) (Nat.le_of_ble_eq_true rfl)
  have hfr := lg_entry_eq m ([.ref (ad 0), .int a1, .int a2] : List Value) 6
  rw [← hav] at hfr
  rw [hfr]
  clear hfr hav
  generalize (lg_sl ([.ref (ad 0), .int a1, .int a2] : List Value) ++ List.replicate (6 - (lg_sl ([.ref (ad 0), .int a1, .int a2] : List Value)).length) Slot.unset).toArray = ls at hl ⊢
  have hl : lv_has ls 6 [(0, .ref (ad 0)), (1, .int a1), (2, .int a2)] := hl
  have kc88 := hts _ (List.mem_cons_of_mem _ m_kl_X2_88)
  refine (?_ : ∀ (H : Heap) (locs : List Loc), va_P (dC, dI) vwCl (zzA ad cy ln la) H → va_D A (zzA ad cy ln la) → va_S A s.heap H locs → W p l e ({ frames := 0, cells := 0, slots := 0, locals := 0 } : Room) s m args below meth c H locs 0 0 QQ (F0 m 0 ls [])) s.heap [] hP hD hS
  clear hP hD hS
  have B45 : ∀ (s1 : Int32) (s2 : Int64) (H : Heap) (locs : List Loc) (ls : Array Slot), f_K_put_45 ln la s1 s2 = some q → va_P (dC, dI) vwCl (zzA ad cy ln la) H → va_D A (zzA ad cy ln la) → va_S A s.heap H locs → lv_has ls 6 [] → W p l e ({ frames := 0, cells := 0, slots := 0, locals := 0 } : Room) s m args below meth c H locs 0 0 QQ (F0 m 45 ls [.long s2, .int s1, .ref (ad 0)]) := by
    intro s1 s2 H locs ls h hP hD hS hl
    unfold f_K_put_45 at h
    obtain ⟨g_24, h⟩ := g_n h
    refine va_last (f := la) hx hb hK hP hD hS 0 2 rfl rfl g_24 dX2_put_45 (fun H locs hP hD hS => ?_)
    have hP : va_P (dC, dI) vwCl (zzA ad cy ln (vp_updL la s1.toNatClampNeg s2)) H := hP
    have hD : va_D A (zzA ad cy ln (vp_updL la s1.toNatClampNeg s2)) := hD
    have h' := Option.some.inj h
    rw [← hQQ]
    exact W.vret hx hb hr (fun t ht hW => ⟨⟨(), rfl, trivial, by rw [← hWQ, ← h', ht]; exact hP, va_K.moved hW.alike hK⟩, hS.F ht⟩) hS.2.2 dX2_put_46
  intro H locs hP hD hS
  unfold f_K_put at h
  refine lv_iload_n hx hb dX2_put_0 rfl (lv_at hl 1 rfl) ?_
  refine lv_bipush (v := 6) hx hb dX2_put_1 (by decide) ?_
  refine lv_ishr hx hb dX2_put_3 ?_
  refine lv_istore_n (lv' := [(3, .int ((a1 >>> ((6 : Int32) &&& 31)))), (0, .ref (ad 0)), (1, .int a1), (2, .int a2)]) hx hb dX2_put_4 rfl hl (by decide) rfl (fun ls hl => ?_)
  refine lv_iload_n hx hb dX2_put_5 rfl (lv_at hl 0 rfl) ?_
  refine lv_if_lt (tgt := 46) hx hb dX2_put_6 (by decide) (fun cz => ?_) (fun cz => ?_)
  · have h := g_t h cz
    have h' := Option.some.inj h
    rw [← hQQ]
    exact W.vret hx hb hr (fun t ht hW => ⟨⟨(), rfl, trivial, by rw [← hWQ, ← h', ht]; exact hP, va_K.moved hW.alike hK⟩, hS.F ht⟩) hS.2.2 dX2_put_46
  · have h := g_f h cz
    refine lv_iload_n hx hb dX2_put_9 rfl (lv_at hl 0 rfl) ?_
    refine lv_aload_n hx hb dX2_put_10 rfl (lv_at hl 1 rfl) ?_
    refine va_alen (v := (Int32.ofNat ln)) hx hb hK hP 0 2 rfl rfl rfl dX2_put_11 ?_
    refine lv_icmp_ge (tgt := 46) hx hb dX2_put_12 (by decide) (fun cz => ?_) (fun cz => ?_)
    · have h := g_t h cz
      have h' := Option.some.inj h
      rw [← hQQ]
      exact W.vret hx hb hr (fun t ht hW => ⟨⟨(), rfl, trivial, by rw [← hWQ, ← h', ht]; exact hP, va_K.moved hW.alike hK⟩, hS.F ht⟩) hS.2.2 dX2_put_46
    · have h := g_f h cz
      refine lv_lconst (v := 1) hx hb dX2_put_15 (by decide) ?_
      refine lv_iload_n hx hb dX2_put_16 rfl (lv_at hl 2 rfl) ?_
      refine lv_lshl (v := ((1 : Int64) <<< ((a1).toInt64 &&& 63))) hx hb dX2_put_17 rfl ?_
      refine lv_lstore (lv' := [(4, .long (((1 : Int64) <<< ((a1).toInt64 &&& 63)))), (3, .int ((a1 >>> ((6 : Int32) &&& 31)))), (0, .ref (ad 0)), (1, .int a1), (2, .int a2)]) hx hb dX2_put_18 hl (by decide) rfl (fun ls hl => ?_)
      refine lv_aload_n hx hb dX2_put_20 rfl (lv_at hl 2 rfl) ?_
      refine lv_iload_n hx hb dX2_put_21 rfl (lv_at hl 1 rfl) ?_
      refine lv_iload_n hx hb dX2_put_22 rfl (lv_at hl 4 rfl) ?_
      refine lv_if_eq (tgt := 35) hx hb dX2_put_23 (by decide) (fun cz => ?_) (fun cz => ?_)
      · have h := g_t h cz
        refine lv_aload_n hx hb dX2_put_35 rfl (lv_at hl 2 rfl) ?_
        refine lv_iload_n hx hb dX2_put_36 rfl (lv_at hl 1 rfl) ?_
        obtain ⟨g_23, h⟩ := g_n h
        refine va_lald (f := la) hx hb hK hP 0 2 rfl rfl g_23 dX2_put_37 ?_
        refine lv_lload hx hb dX2_put_38 (lv_at hl 0 rfl) ?_
        refine lv_ldc2 (v := (-1)) hx hb hown kc88 dX2_put_40 ?_
        refine lv_lxor hx hb dX2_put_43 ?_
        refine lv_land hx hb dX2_put_44 ?_
        exact B45 ((a1 >>> ((6 : Int32) &&& 31))) (((la ((a1 >>> ((6 : Int32) &&& 31))).toNatClampNeg) &&& (((1 : Int64) <<< ((a1).toInt64 &&& 63)) ^^^ (-1 : Int64)))) H locs ls h hP hD hS (lv_sub hl [] rfl)
      · have h := g_f h cz
        refine lv_aload_n hx hb dX2_put_26 rfl (lv_at hl 2 rfl) ?_
        refine lv_iload_n hx hb dX2_put_27 rfl (lv_at hl 1 rfl) ?_
        obtain ⟨g_23, h⟩ := g_n h
        refine va_lald (f := la) hx hb hK hP 0 2 rfl rfl g_23 dX2_put_28 ?_
        refine lv_lload hx hb dX2_put_29 (lv_at hl 0 rfl) ?_
        refine lv_lor hx hb dX2_put_31 ?_
        refine lv_goto (tgt := 45) hx hb dX2_put_32 (by decide) ?_
        exact B45 ((a1 >>> ((6 : Int32) &&& 31))) (((la ((a1 >>> ((6 : Int32) &&& 31))).toNatClampNeg) ||| ((1 : Int64) <<< ((a1).toInt64 &&& 63)))) H locs ls h hP hD hS (lv_sub hl [] rfl)
set_option maxHeartbeats 8000000 in
set_option maxRecDepth 100000 in
theorem c_J_bitCount (l : Launch) (dC : Nat → ClassId) (dI : Nat → Nat → Nat) (cy : Nat → ClassId) (ad : Nat → Nat) (sz : Nat) (a0 : Int64) (q : Int32) (h : f_J_bitCount a0 = some q) : Met l yJ13_bitCount_95d88 wsJ13_bitCount_95d88 ({ frames := 0, cells := 0, slots := 0, locals := 0 } : Room) (cP (dC, dI) cy [.long a0] (zzE ad cy) sz) (cQi (dC, dI) cy q (zzE ad cy) (va_A (zzE ad cy) sz)) 0 0 (va_A (zzE ad cy) sz) := by
  refine Met.ofW (cc := cJ13_bitCount_95d88) (maxL := 2) (ret := (some .int)) (by decide) rfl ?_
  intro p e s m args below meth c s₁ B hml hv
  obtain ⟨hav, hsz, hP, hK, hD0, hN⟩ := hv
  have hx := B.exec
  have hb := B.bytes
  have hr := B.returns
  have hts := atoms_spec (ws := wsJ13_bitCount_95d88) B.pre
  have hown : s.vm.findClass RJ13 = some m.cls := findClass_of_methodNamed B.named
  have hlocks := B.notSynchronized
  subst hsz
  have hD := hD0.self (sz := s.heap.size)
  generalize hAe : va_A (zzE ad cy) s.heap.size = A at hD ⊢
  have hA : ∀ q : Nat, s.heap.size ≤ q → A q := fun q h => by rw [← hAe]; exact Or.inr h
  have hS : va_S A s.heap s.heap [] := va_S.rf
  generalize hWQ : (zzE ad cy) = WQ
  generalize hQQ : MQ below (cQi (dC, dI) cy q WQ A) args s 0 0 A = QQ
  have hl := lv_entry ([.long a0] : List Value) (n := 2) (Nat.le_of_ble_eq_true rfl)
  have hfr := lg_entry_eq m ([.long a0] : List Value) 2
  rw [← hav] at hfr
  rw [hfr]
  clear hfr hav
  generalize (lg_sl ([.long a0] : List Value) ++ List.replicate (2 - (lg_sl ([.long a0] : List Value)).length) Slot.unset).toArray = ls at hl ⊢
  have hl : lv_has ls 2 [(0, .long a0)] := hl
  have kc318 := hts _ (List.mem_cons_of_mem _ m_kl_J13_318)
  have kc316 := hts _ (List.mem_cons_of_mem _ m_kl_J13_316)
  have kc314 := hts _ (List.mem_cons_of_mem _ m_kl_J13_314)
  refine (?_ : ∀ (H : Heap) (locs : List Loc), va_P (dC, dI) vwCl (zzE ad cy) H → va_D A (zzE ad cy) → va_S A s.heap H locs → W p l e ({ frames := 0, cells := 0, slots := 0, locals := 0 } : Room) s m args below meth c H locs 0 0 QQ (F0 m 0 ls [])) s.heap [] hP hD hS
  clear hP hD hS
  have B55 : ∀ (v0 : Int64) (H : Heap) (locs : List Loc) (ls : Array Slot), f_J_bitCount_55 v0 = some q → va_P (dC, dI) vwCl (zzE ad cy) H → va_D A (zzE ad cy) → va_S A s.heap H locs → lv_has ls 2 [(0, .long v0)] → W p l e ({ frames := 0, cells := 0, slots := 0, locals := 0 } : Room) s m args below meth c H locs 0 0 QQ (F0 m 55 ls []) := by
    intro v0 H locs ls h hP hD hS hl
    unfold f_J_bitCount_55 at h
    refine lv_lload_n hx hb dJ13_bitCount_95d88_55 rfl (lv_at hl 0 rfl) ?_
    refine lv_l2i (v := (v0).toInt32) hx hb dJ13_bitCount_95d88_56 rfl ?_
    refine lv_bipush (v := 127) hx hb dJ13_bitCount_95d88_57 (by decide) ?_
    refine lv_iand hx hb dJ13_bitCount_95d88_59 ?_
    have h' := Option.some.inj h
    rw [← hQQ]
    exact W.iret (v := ((v0).toInt32 &&& (127 : Int32))) hx hb hr (fun t ht hW => ⟨⟨((v0).toInt32 &&& (127 : Int32)), (), rfl, by rw [← h'], by rw [← hWQ, ht]; exact hP, va_K.moved hW.alike hK⟩, hS.F ht⟩) hS.2.2 dJ13_bitCount_95d88_60
  have B48 : ∀ (v0 : Int64) (H : Heap) (locs : List Loc) (ls : Array Slot), f_J_bitCount_48 v0 = some q → va_P (dC, dI) vwCl (zzE ad cy) H → va_D A (zzE ad cy) → va_S A s.heap H locs → lv_has ls 2 [(0, .long v0)] → W p l e ({ frames := 0, cells := 0, slots := 0, locals := 0 } : Room) s m args below meth c H locs 0 0 QQ (F0 m 48 ls []) := by
    intro v0 H locs ls h hP hD hS hl
    unfold f_J_bitCount_48 at h
    refine lv_lload_n hx hb dJ13_bitCount_95d88_48 rfl (lv_at hl 0 rfl) ?_
    refine lv_lload_n hx hb dJ13_bitCount_95d88_49 rfl (lv_at hl 0 rfl) ?_
    refine lv_bipush (v := 32) hx hb dJ13_bitCount_95d88_50 (by decide) ?_
    refine lv_lushr (v := ((v0).toUInt64 >>> (((32 : Int32)).toInt64.toUInt64 &&& Int64.toUInt64 63)).toInt64) hx hb dJ13_bitCount_95d88_52 rfl ?_
    refine lv_ladd hx hb dJ13_bitCount_95d88_53 ?_
    refine lv_lstore_n (lv' := [(0, .long ((v0 + ((v0).toUInt64 >>> (((32 : Int32)).toInt64.toUInt64 &&& Int64.toUInt64 63)).toInt64)))]) hx hb dJ13_bitCount_95d88_54 rfl hl (by decide) rfl (fun ls hl => ?_)
    exact B55 ((v0 + ((v0).toUInt64 >>> (((32 : Int32)).toInt64.toUInt64 &&& Int64.toUInt64 63)).toInt64)) H locs ls h hP hD hS (lv_sub hl [0] rfl)
  have B41 : ∀ (v0 : Int64) (H : Heap) (locs : List Loc) (ls : Array Slot), f_J_bitCount_41 v0 = some q → va_P (dC, dI) vwCl (zzE ad cy) H → va_D A (zzE ad cy) → va_S A s.heap H locs → lv_has ls 2 [(0, .long v0)] → W p l e ({ frames := 0, cells := 0, slots := 0, locals := 0 } : Room) s m args below meth c H locs 0 0 QQ (F0 m 41 ls []) := by
    intro v0 H locs ls h hP hD hS hl
    unfold f_J_bitCount_41 at h
    refine lv_lload_n hx hb dJ13_bitCount_95d88_41 rfl (lv_at hl 0 rfl) ?_
    refine lv_lload_n hx hb dJ13_bitCount_95d88_42 rfl (lv_at hl 0 rfl) ?_
    refine lv_bipush (v := 16) hx hb dJ13_bitCount_95d88_43 (by decide) ?_
    refine lv_lushr (v := ((v0).toUInt64 >>> (((16 : Int32)).toInt64.toUInt64 &&& Int64.toUInt64 63)).toInt64) hx hb dJ13_bitCount_95d88_45 rfl ?_
    refine lv_ladd hx hb dJ13_bitCount_95d88_46 ?_
    refine lv_lstore_n (lv' := [(0, .long ((v0 + ((v0).toUInt64 >>> (((16 : Int32)).toInt64.toUInt64 &&& Int64.toUInt64 63)).toInt64)))]) hx hb dJ13_bitCount_95d88_47 rfl hl (by decide) rfl (fun ls hl => ?_)
    exact B48 ((v0 + ((v0).toUInt64 >>> (((16 : Int32)).toInt64.toUInt64 &&& Int64.toUInt64 63)).toInt64)) H locs ls h hP hD hS (lv_sub hl [0] rfl)
  have B34 : ∀ (v0 : Int64) (H : Heap) (locs : List Loc) (ls : Array Slot), f_J_bitCount_34 v0 = some q → va_P (dC, dI) vwCl (zzE ad cy) H → va_D A (zzE ad cy) → va_S A s.heap H locs → lv_has ls 2 [(0, .long v0)] → W p l e ({ frames := 0, cells := 0, slots := 0, locals := 0 } : Room) s m args below meth c H locs 0 0 QQ (F0 m 34 ls []) := by
    intro v0 H locs ls h hP hD hS hl
    unfold f_J_bitCount_34 at h
    refine lv_lload_n hx hb dJ13_bitCount_95d88_34 rfl (lv_at hl 0 rfl) ?_
    refine lv_lload_n hx hb dJ13_bitCount_95d88_35 rfl (lv_at hl 0 rfl) ?_
    refine lv_bipush (v := 8) hx hb dJ13_bitCount_95d88_36 (by decide) ?_
    refine lv_lushr (v := ((v0).toUInt64 >>> (((8 : Int32)).toInt64.toUInt64 &&& Int64.toUInt64 63)).toInt64) hx hb dJ13_bitCount_95d88_38 rfl ?_
    refine lv_ladd hx hb dJ13_bitCount_95d88_39 ?_
    refine lv_lstore_n (lv' := [(0, .long ((v0 + ((v0).toUInt64 >>> (((8 : Int32)).toInt64.toUInt64 &&& Int64.toUInt64 63)).toInt64)))]) hx hb dJ13_bitCount_95d88_40 rfl hl (by decide) rfl (fun ls hl => ?_)
    exact B41 ((v0 + ((v0).toUInt64 >>> (((8 : Int32)).toInt64.toUInt64 &&& Int64.toUInt64 63)).toInt64)) H locs ls h hP hD hS (lv_sub hl [0] rfl)
  have B24 : ∀ (v0 : Int64) (H : Heap) (locs : List Loc) (ls : Array Slot), f_J_bitCount_24 v0 = some q → va_P (dC, dI) vwCl (zzE ad cy) H → va_D A (zzE ad cy) → va_S A s.heap H locs → lv_has ls 2 [(0, .long v0)] → W p l e ({ frames := 0, cells := 0, slots := 0, locals := 0 } : Room) s m args below meth c H locs 0 0 QQ (F0 m 24 ls []) := by
    intro v0 H locs ls h hP hD hS hl
    unfold f_J_bitCount_24 at h
    refine lv_lload_n hx hb dJ13_bitCount_95d88_24 rfl (lv_at hl 0 rfl) ?_
    refine lv_lload_n hx hb dJ13_bitCount_95d88_25 rfl (lv_at hl 0 rfl) ?_
    refine lv_iconst (v := 4) hx hb dJ13_bitCount_95d88_26 (by decide) ?_
    refine lv_lushr (v := ((v0).toUInt64 >>> (((4 : Int32)).toInt64.toUInt64 &&& Int64.toUInt64 63)).toInt64) hx hb dJ13_bitCount_95d88_27 rfl ?_
    refine lv_ladd hx hb dJ13_bitCount_95d88_28 ?_
    refine lv_ldc2 (v := 1085102592571150095) hx hb hown kc318 dJ13_bitCount_95d88_29 ?_
    refine lv_land hx hb dJ13_bitCount_95d88_32 ?_
    refine lv_lstore_n (lv' := [(0, .long (((v0 + ((v0).toUInt64 >>> (((4 : Int32)).toInt64.toUInt64 &&& Int64.toUInt64 63)).toInt64) &&& (1085102592571150095 : Int64))))]) hx hb dJ13_bitCount_95d88_33 rfl hl (by decide) rfl (fun ls hl => ?_)
    exact B34 (((v0 + ((v0).toUInt64 >>> (((4 : Int32)).toInt64.toUInt64 &&& Int64.toUInt64 63)).toInt64) &&& (1085102592571150095 : Int64))) H locs ls h hP hD hS (lv_sub hl [0] rfl)
  have B10 : ∀ (v0 : Int64) (H : Heap) (locs : List Loc) (ls : Array Slot), f_J_bitCount_10 v0 = some q → va_P (dC, dI) vwCl (zzE ad cy) H → va_D A (zzE ad cy) → va_S A s.heap H locs → lv_has ls 2 [(0, .long v0)] → W p l e ({ frames := 0, cells := 0, slots := 0, locals := 0 } : Room) s m args below meth c H locs 0 0 QQ (F0 m 10 ls []) := by
    intro v0 H locs ls h hP hD hS hl
    unfold f_J_bitCount_10 at h
    refine lv_lload_n hx hb dJ13_bitCount_95d88_10 rfl (lv_at hl 0 rfl) ?_
    refine lv_ldc2 (v := 3689348814741910323) hx hb hown kc316 dJ13_bitCount_95d88_11 ?_
    refine lv_land hx hb dJ13_bitCount_95d88_14 ?_
    refine lv_lload_n hx hb dJ13_bitCount_95d88_15 rfl (lv_at hl 0 rfl) ?_
    refine lv_iconst (v := 2) hx hb dJ13_bitCount_95d88_16 (by decide) ?_
    refine lv_lushr (v := ((v0).toUInt64 >>> (((2 : Int32)).toInt64.toUInt64 &&& Int64.toUInt64 63)).toInt64) hx hb dJ13_bitCount_95d88_17 rfl ?_
    refine lv_ldc2 (v := 3689348814741910323) hx hb hown kc316 dJ13_bitCount_95d88_18 ?_
    refine lv_land hx hb dJ13_bitCount_95d88_21 ?_
    refine lv_ladd hx hb dJ13_bitCount_95d88_22 ?_
    refine lv_lstore_n (lv' := [(0, .long (((v0 &&& (3689348814741910323 : Int64)) + (((v0).toUInt64 >>> (((2 : Int32)).toInt64.toUInt64 &&& Int64.toUInt64 63)).toInt64 &&& (3689348814741910323 : Int64)))))]) hx hb dJ13_bitCount_95d88_23 rfl hl (by decide) rfl (fun ls hl => ?_)
    exact B24 (((v0 &&& (3689348814741910323 : Int64)) + (((v0).toUInt64 >>> (((2 : Int32)).toInt64.toUInt64 &&& Int64.toUInt64 63)).toInt64 &&& (3689348814741910323 : Int64)))) H locs ls h hP hD hS (lv_sub hl [0] rfl)
  intro H locs hP hD hS
  unfold f_J_bitCount at h
  refine lv_lload_n hx hb dJ13_bitCount_95d88_0 rfl (lv_at hl 0 rfl) ?_
  refine lv_lload_n hx hb dJ13_bitCount_95d88_1 rfl (lv_at hl 0 rfl) ?_
  refine lv_iconst (v := 1) hx hb dJ13_bitCount_95d88_2 (by decide) ?_
  refine lv_lushr (v := ((a0).toUInt64 >>> (((1 : Int32)).toInt64.toUInt64 &&& Int64.toUInt64 63)).toInt64) hx hb dJ13_bitCount_95d88_3 rfl ?_
  refine lv_ldc2 (v := 6148914691236517205) hx hb hown kc314 dJ13_bitCount_95d88_4 ?_
  refine lv_land hx hb dJ13_bitCount_95d88_7 ?_
  refine lv_lsub hx hb dJ13_bitCount_95d88_8 ?_
  refine lv_lstore_n (lv' := [(0, .long ((a0 - (((a0).toUInt64 >>> (((1 : Int32)).toInt64.toUInt64 &&& Int64.toUInt64 63)).toInt64 &&& (6148914691236517205 : Int64)))))]) hx hb dJ13_bitCount_95d88_9 rfl hl (by decide) rfl (fun ls hl => ?_)
  exact B10 ((a0 - (((a0).toUInt64 >>> (((1 : Int32)).toInt64.toUInt64 &&& Int64.toUInt64 63)).toInt64 &&& (6148914691236517205 : Int64)))) H locs ls h hP hD hS (lv_sub hl [0] rfl)
set_option maxHeartbeats 8000000 in
set_option maxRecDepth 100000 in
theorem c_K_lowestBit (l : Launch) (dC : Nat → ClassId) (dI : Nat → Nat → Nat) (cy : Nat → ClassId) (ad : Nat → Nat) (sz : Nat) (a0 : Int64) (q : Int32) (h : f_K_lowestBit a0 = some q) : Met l yX2_lowestBit wsX2_lowestBit ({ frames := 1, cells := 0, slots := 0, locals := 21 } : Room) (cP (dC, dI) cy [.long a0] (zzE ad cy) sz) (cQi (dC, dI) cy q (zzE ad cy) (va_A (zzE ad cy) sz)) 0 0 (va_A (zzE ad cy) sz) := by
  refine Met.ofW (cc := cX2_lowestBit) (maxL := 2) (ret := (some .int)) (by decide) rfl ?_
  intro p e s m args below meth c s₁ B hml hv
  obtain ⟨hav, hsz, hP, hK, hD0, hN⟩ := hv
  have hx := B.exec
  have hb := B.bytes
  have hr := B.returns
  have hts := atoms_spec (ws := wsX2_lowestBit) B.pre
  have hown : s.vm.findClass RX2 = some m.cls := findClass_of_methodNamed B.named
  have hlocks := B.notSynchronized
  subst hsz
  have hD := hD0.self (sz := s.heap.size)
  generalize hAe : va_A (zzE ad cy) s.heap.size = A at hD ⊢
  have hA : ∀ q : Nat, s.heap.size ≤ q → A q := fun q h => by rw [← hAe]; exact Or.inr h
  have hS : va_S A s.heap s.heap [] := va_S.rf
  generalize hWQ : (zzE ad cy) = WQ
  generalize hQQ : MQ below (cQi (dC, dI) cy q WQ A) args s 0 0 A = QQ
  have hl := lv_entry ([.long a0] : List Value) (n := 2) (Nat.le_of_ble_eq_true rfl)
  have hfr := lg_entry_eq m ([.long a0] : List Value) 2
  rw [← hav] at hfr
  rw [hfr]
  clear hfr hav
  generalize (lg_sl ([.long a0] : List Value) ++ List.replicate (2 - (lg_sl ([.long a0] : List Value)).length) Slot.unset).toArray = ls at hl ⊢
  have hl : lv_has ls 2 [(0, .long a0)] := hl
  refine (?_ : ∀ (H : Heap) (locs : List Loc), va_P (dC, dI) vwCl (zzE ad cy) H → va_D A (zzE ad cy) → va_S A s.heap H locs → W p l e ({ frames := 1, cells := 0, slots := 0, locals := 21 } : Room) s m args below meth c H locs 0 0 QQ (F0 m 0 ls [])) s.heap [] hP hD hS
  clear hP hD hS
  intro H locs hP hD hS
  unfold f_K_lowestBit at h
  refine lv_lload_n hx hb dX2_lowestBit_0 rfl (lv_at hl 0 rfl) ?_
  refine lv_lload_n hx hb dX2_lowestBit_1 rfl (lv_at hl 0 rfl) ?_
  refine lv_lneg hx hb dX2_lowestBit_2 ?_
  refine lv_land hx hb dX2_lowestBit_3 ?_
  refine lv_lconst (v := 1) hx hb dX2_lowestBit_4 (by decide) ?_
  refine lv_lsub hx hb dX2_lowestBit_5 ?_
  obtain ⟨q6, e6, h⟩ := g_b h
  refine callSis (cc := cX2_lowestBit) (w1 := zzE ad cy) (As := [.long (((a0 &&& (-a0)) - (1 : Int64)))]) (rest := []) ⟨hx, hb, hml, hown, hts⟩ (c_J_bitCount l dC dI cy ad H.size (((a0 &&& (-a0)) - (1 : Int64))) q6 e6) (va_cwS 1 hts (goodS m_ml_X2_191 m_st_J13_bitCount_95d88 m_in_J13 m_cd_J13_bitCount_95d88) rfl rfl rfl (by decide +kernel) ⟨Nat.le_of_ble_eq_true rfl, Nat.le_of_ble_eq_true rfl⟩) hN hK hP hD hS hA rfl rfl hl.1 rfl (Nat.le_of_ble_eq_true rfl) dX2_lowestBit_6 ⟨Nat.zero_le _, Nat.zero_le _⟩ (fun H locs hP hD hS => ?_)
  have h' := Option.some.inj h
  rw [← hQQ]
  exact W.iret (v := q6) hx hb hr (fun t ht hW => ⟨⟨q6, (), rfl, by rw [← h'], by rw [← hWQ, ht]; exact hP, va_K.moved hW.alike hK⟩, hS.F ht⟩) hS.2.2 dX2_lowestBit_9
