def f_R_takeQuestion (N : Nat) (iR : Nat → Int32) (iT : Nat → Int32) (wT : Int64) (tx : Nat → Int32) (iB : Nat → Int32) (lB : Nat → Nat → Int64) (aB : Nat → Nat → Int32) (iC : Nat → Int32) (aC : Nat → Nat → Int32) : Option ((Nat → Int32) × (Nat → Int32) × Int64 × (Nat → Int32) × (Nat → Nat → Int64) × (Nat → Nat → Int32) × (Nat → Int32) × (Nat → Nat → Int32)) := if (iB 11) < (12 : Int32) then ((f_T_step N ((iT 1)) ((iT 2)) ((iT 3)) ((iT 4)) wT tx).bind fun q23 => ((f_R_takeConcept N (f_R_takeOne N 14) ((0 : Int32)) iR ((us iT [(2, q23.1), (3, q23.2.1), (4, q23.2.2.1)])) q23.2.2.2 tx iB lB aB iC aC).bind fun q28 => (if q28.1 = (-1 : Int32) then (some (q28.2.1, q28.2.2.1, q28.2.2.2.1, q28.2.2.2.2.1, q28.2.2.2.2.2.1, aB, q28.2.2.2.2.2.2.1, q28.2.2.2.2.2.2.2)) else ((f_R_takeEnd N ((q28.2.1 3)) ((q28.2.1 4)) ((q28.2.2.1 1)) ((q28.2.2.1 2)) ((q28.2.2.1 3)) ((q28.2.2.1 4)) q28.2.2.2.1 tx).bind fun q38 => (if q38.1 = 0 then (some ((us q28.2.1 [(3, q38.2.1), (4, q38.2.2.1)]), (us q28.2.2.1 [(2, q38.2.2.2.1), (3, q38.2.2.2.2.1), (4, q38.2.2.2.2.2.1)]), q38.2.2.2.2.2.2, q28.2.2.2.2.1, q28.2.2.2.2.2.1, aB, q28.2.2.2.2.2.2.1, q28.2.2.2.2.2.2.2)) else ((f_B_addQuestion q28.1 ((q28.2.2.2.2.1 7)) ((q28.2.2.2.2.1 11)) ((aB 6)) ((aB 10))).bind fun q49 => (some ((us q28.2.1 [(3, q38.2.1), (4, q38.2.2.1)]), (us q28.2.2.1 [(2, q38.2.2.2.1), (3, q38.2.2.2.2.1), (4, q38.2.2.2.2.2.1)]), q38.2.2.2.2.2.2, (us q28.2.2.2.2.1 [(7, q49.1), (11, q49.2.1)]), q28.2.2.2.2.2.1, (us aB [(6, q49.2.2.1), (10, q49.2.2.2)]), q28.2.2.2.2.2.2.1, q28.2.2.2.2.2.2.2)))))))) else ((f_R_failHere ((3 : Int32)) ((iR 3)) ((iR 4)) ((iT 3))).bind fun q14 => (some ((us iR [(3, q14.2.1), (4, q14.2.2)]), iT, wT, iB, lB, aB, iC, aC)))
set_option maxHeartbeats 8000000 in
set_option maxRecDepth 100000 in
theorem c_R_takeQuestion (l : Launch) (dC : Nat → ClassId) (dI : Nat → Nat → Nat) (cy : Nat → ClassId) (ad : Nat → Nat) (sz : Nat) (N : Nat) (iR : Nat → Int32) (iT : Nat → Int32) (wT : Int64) (tx : Nat → Int32) (iB : Nat → Int32) (lB : Nat → Nat → Int64) (aB : Nat → Nat → Int32) (iC : Nat → Int32) (aC : Nat → Nat → Int32) (q : (Nat → Int32) × (Nat → Int32) × Int64 × (Nat → Int32) × (Nat → Nat → Int64) × (Nat → Nat → Int32) × (Nat → Int32) × (Nat → Nat → Int32)) (h : f_R_takeQuestion N iR iT wT tx iB lB aB iC aC = some q) : Met l yX4_takeQuestion wsX4_takeQuestion ({ frames := 89, cells := 0, slots := 0, locals := 2138 } : Room) (cP (dC, dI) cy [.ref (ad 0)] (zzR ad cy (ad 3) (ad 10) iR iT wT tx iB lB aB iC aC) sz) (cQv (dC, dI) cy (zzR ad cy (ad 3) (ad 10) q.1 q.2.1 q.2.2.1 tx q.2.2.2.1 q.2.2.2.2.1 q.2.2.2.2.2.1 q.2.2.2.2.2.2.1 q.2.2.2.2.2.2.2) (va_A (zzR ad cy (ad 3) (ad 10) iR iT wT tx iB lB aB iC aC) sz)) 0 0 (va_A (zzR ad cy (ad 3) (ad 10) iR iT wT tx iB lB aB iC aC) sz) := by
  refine Met.ofW (cc := cX4_takeQuestion) (maxL := 2) (ret := none) (by decide) rfl ?_
  intro p e s m args below meth c s₁ B hml hv
  obtain ⟨hav, hsz, hP, hK, hD0, hN⟩ := hv
  have hx := B.exec
  have hb := B.bytes
  have hr := B.returns
  have hts := atoms_spec (ws := wsX4_takeQuestion) B.pre
  have hown : s.vm.findClass RX4 = some m.cls := findClass_of_methodNamed B.named
  have hlocks := B.notSynchronized
  subst hsz
  have hD := hD0.self (sz := s.heap.size)
  generalize hAe : va_A (zzR ad cy (ad 3) (ad 10) iR iT wT tx iB lB aB iC aC) s.heap.size = A at hD ⊢
  have hA : ∀ q : Nat, s.heap.size ≤ q → A q := fun q h => by rw [← hAe]; exact Or.inr h
  have hS : va_S A s.heap s.heap [] := va_S.rf
  generalize hWQ : (zzR ad cy (ad 3) (ad 10) q.1 q.2.1 q.2.2.1 tx q.2.2.2.1 q.2.2.2.2.1 q.2.2.2.2.2.1 q.2.2.2.2.2.2.1 q.2.2.2.2.2.2.2) = WQ
  generalize hQQ : MQ below (cQv (dC, dI) cy WQ A) args s 0 0 A = QQ
  have hl := lv_entry ([.ref (ad 0)] : List Value) (n := 2) (Nat.le_of_ble_eq_true rfl)
  have hfr := lg_entry_eq m ([.ref (ad 0)] : List Value) 2
  rw [← hav] at hfr
  rw [hfr]
  clear hfr hav
  generalize (lg_sl ([.ref (ad 0)] : List Value) ++ List.replicate (2 - (lg_sl ([.ref (ad 0)] : List Value)).length) Slot.unset).toArray = ls at hl ⊢
  have hl : lv_has ls 2 [(0, .ref (ad 0))] := hl
  have kf24 := hts _ (List.mem_cons_of_mem _ m_fl_X4_24)
  have ki4 := (fun w h => List.mem_cons_of_mem _ (i_X4 w h) : ∀ w ∈ u_ws RX4 TX4 5, w ∈ wsX4_takeQuestion)
  have kf111 := hts _ (List.mem_cons_of_mem _ m_fl_X4_111)
  have ki0 := (fun w h => List.mem_cons_of_mem _ (i_X0 w h) : ∀ w ∈ u_ws RX0 TX0 15, w ∈ wsX4_takeQuestion)
  have kf20 := hts _ (List.mem_cons_of_mem _ m_fl_X4_20)
  refine (?_ : ∀ (H : Heap) (locs : List Loc), va_P (dC, dI) vwCl (zzR ad cy (ad 3) (ad 10) iR iT wT tx iB lB aB iC aC) H → va_D A (zzR ad cy (ad 3) (ad 10) iR iT wT tx iB lB aB iC aC) → va_S A s.heap H locs → W p l e ({ frames := 89, cells := 0, slots := 0, locals := 2138 } : Room) s m args below meth c H locs 0 0 QQ (F0 m 0 ls [])) s.heap [] hP hD hS
  clear hP hD hS
  intro H locs hP hD hS
  unfold f_R_takeQuestion at h
  refine lv_aload_n hx hb dX4_takeQuestion_0 rfl (lv_at hl 0 rfl) ?_
  refine va_get (D := (dC, dI)) (ci := 4) (v := .ref (ad 3)) (C := RX4) (T := TX4) (N := 5) hx hb hts ki4 hown hK hP 0 rfl rfl 1 (by decide) kf24 (fun _ h9 => h9) rfl dX4_takeQuestion_1 ?_
  refine va_get (D := (dC, dI)) (ci := 0) (v := .int ((iB 11))) (C := RX0) (T := TX0) (N := 15) hx hb hts ki0 hown hK hP 3 rfl rfl 11 (by decide) kf111 (fun _ h9 => h9) rfl dX4_takeQuestion_4 ?_
  refine lv_bipush (v := 12) hx hb dX4_takeQuestion_7 (by decide) ?_
  refine lv_icmp_lt (tgt := 19) hx hb dX4_takeQuestion_9 (by decide) (fun cz => ?_) (fun cz => ?_)
  · have h := g_t h cz
    refine lv_aload_n hx hb dX4_takeQuestion_19 rfl (lv_at hl 0 rfl) ?_
    refine va_get (D := (dC, dI)) (ci := 4) (v := .ref (ad 1)) (C := RX4) (T := TX4) (N := 5) hx hb hts ki4 hown hK hP 0 rfl rfl 0 (by decide) kf20 (fun _ h9 => h9) rfl dX4_takeQuestion_20 ?_
    obtain ⟨q23, e23, h⟩ := g_b h
    refine callVv (cc := cX4_takeQuestion) (ws' := zzR ad cy (ad 3) (ad 10) iR (us iT [(2, q23.1), (3, q23.2.1), (4, q23.2.2.1)]) q23.2.2.2 tx iB lB aB iC aC) (As := []) (rest := []) ⟨hx, hb, hml, hown, hts⟩ (c_T_step l dC dI cy (fun i => ad (i + 1)) H.size N iT wT tx q23 e23) (cwV 0 hts (goodV m_ml_X4_87 m_im_X5_step m_se_X5_step m_in_X5 m_cd_X5_step) rfl rfl rfl (by decide +kernel) ⟨Nat.le_of_ble_eq_true rfl, Nat.le_of_ble_eq_true rfl⟩) hN hK hP hD hS hA [1, 2] [none, some 0, some 1, none, none, none, none, none, none, none, none, none, none, none, none, none, none, none, none] rfl rfl rfl rfl rfl rfl 1 rfl rfl rfl hl.1 rfl (Nat.le_of_ble_eq_true rfl) dX4_takeQuestion_23 ⟨Nat.zero_le _, Nat.zero_le _⟩ (fun H locs hP hD hS => ?_)
    refine lv_aload_n hx hb dX4_takeQuestion_26 rfl (lv_at hl 0 rfl) ?_
    refine lv_iconst (v := 0) hx hb dX4_takeQuestion_27 (by decide) ?_
    obtain ⟨q28, e28, h⟩ := g_b h
    refine callVis (cc := cX4_takeQuestion) (w1 := zzR ad cy (ad 3) (ad 10) q28.2.1 q28.2.2.1 q28.2.2.2.1 tx q28.2.2.2.2.1 q28.2.2.2.2.2.1 aB q28.2.2.2.2.2.2.1 q28.2.2.2.2.2.2.2) (As := [.int ((0 : Int32))]) (rest := []) ⟨hx, hb, hml, hown, hts⟩ (c_R_takeConcept l dC dI cy ad H.size N 84 2016 (f_R_takeOne N 14) (fun sz a1 iR iT wT tx iB lB aB iC aC q h => c_R_takeOne l dC dI cy ad sz N 14 a1 iR iT wT tx iB lB aB iC aC q h) ((0 : Int32)) iR ((us iT [(2, q23.1), (3, q23.2.1), (4, q23.2.2.1)])) q23.2.2.2 tx iB lB aB iC aC q28 e28) (cwV 1 hts (goodV m_ml_X4_97 m_im_X4_takeConcept m_se_X4_takeConcept m_in_X4 m_cd_X4_takeConcept) rfl rfl rfl (by decide +kernel) ⟨Nat.le_of_ble_eq_true rfl, Nat.le_of_ble_eq_true rfl⟩) hN hK hP hD hS hA rfl 0 rfl rfl rfl hl.1 rfl (Nat.le_of_ble_eq_true rfl) dX4_takeQuestion_28 ⟨Nat.zero_le _, Nat.zero_le _⟩ (fun H locs hP hD hS => ?_)
    refine lv_istore_n (lv' := [(1, .int q28.1), (0, .ref (ad 0))]) hx hb dX4_takeQuestion_31 rfl hl (by decide) rfl (fun ls hl => ?_)
    refine lv_iload_n hx hb dX4_takeQuestion_32 rfl (lv_at hl 0 rfl) ?_
    refine lv_iconst (v := (-1)) hx hb dX4_takeQuestion_33 (by decide) ?_
    refine lv_icmp_eq (tgt := 52) hx hb dX4_takeQuestion_34 (by decide) (fun cz => ?_) (fun cz => ?_)
    · have h := g_t h cz
      have h' := Option.some.inj h
      rw [← hQQ]
      exact W.vret hx hb hr (fun t ht hW => ⟨⟨(), rfl, trivial, by rw [← hWQ, ← h', ht]; exact hP, va_K.moved hW.alike hK⟩, hS.F ht⟩) hS.2.2 dX4_takeQuestion_52
    · have h := g_f h cz
      refine lv_aload_n hx hb dX4_takeQuestion_37 rfl (lv_at hl 1 rfl) ?_
      obtain ⟨q38, e38, h⟩ := g_b h
      refine callVis (cc := cX4_takeQuestion) (w1 := zzR ad cy (ad 3) (ad 10) (us q28.2.1 [(3, q38.2.1), (4, q38.2.2.1)]) (us q28.2.2.1 [(2, q38.2.2.2.1), (3, q38.2.2.2.2.1), (4, q38.2.2.2.2.2.1)]) q38.2.2.2.2.2.2 tx q28.2.2.2.2.1 q28.2.2.2.2.2.1 aB q28.2.2.2.2.2.2.1 q28.2.2.2.2.2.2.2) (As := []) (rest := []) ⟨hx, hb, hml, hown, hts⟩ (c_R_takeEnd l dC dI cy ad H.size N q28.2.1 q28.2.2.1 q28.2.2.2.1 tx q28.2.2.2.2.1 q28.2.2.2.2.2.1 aB q28.2.2.2.2.2.2.1 q28.2.2.2.2.2.2.2 q38 e38) (cwV 0 hts (goodV m_ml_X4_104 m_im_X4_takeEnd m_se_X4_takeEnd m_in_X4 m_cd_X4_takeEnd) rfl rfl rfl (by decide +kernel) ⟨Nat.le_of_ble_eq_true rfl, Nat.le_of_ble_eq_true rfl⟩) hN hK hP hD hS hA rfl 0 rfl rfl rfl hl.1 rfl (Nat.le_of_ble_eq_true rfl) dX4_takeQuestion_38 ⟨Nat.zero_le _, Nat.zero_le _⟩ (fun H locs hP hD hS => ?_)
      refine lv_if_eq (tgt := 52) hx hb dX4_takeQuestion_41 (by decide) (fun cz => ?_) (fun cz => ?_)
      · have h := g_t h cz
        have h' := Option.some.inj h
        rw [← hQQ]
        exact W.vret hx hb hr (fun t ht hW => ⟨⟨(), rfl, trivial, by rw [← hWQ, ← h', ht]; exact hP, va_K.moved hW.alike hK⟩, hS.F ht⟩) hS.2.2 dX4_takeQuestion_52
      · have h := g_f h cz
        refine lv_aload_n hx hb dX4_takeQuestion_44 rfl (lv_at hl 1 rfl) ?_
        refine va_get (D := (dC, dI)) (ci := 4) (v := .ref (ad 3)) (C := RX4) (T := TX4) (N := 5) hx hb hts ki4 hown hK hP 0 rfl rfl 1 (by decide) kf24 (fun _ h9 => h9) rfl dX4_takeQuestion_45 ?_
        refine lv_iload_n hx hb dX4_takeQuestion_48 rfl (lv_at hl 0 rfl) ?_
        obtain ⟨q49, e49, h⟩ := g_b h
        refine callVv (cc := cX4_takeQuestion) (ws' := zzR ad cy (ad 3) (ad 10) (us q28.2.1 [(3, q38.2.1), (4, q38.2.2.1)]) (us q28.2.2.1 [(2, q38.2.2.2.1), (3, q38.2.2.2.2.1), (4, q38.2.2.2.2.2.1)]) q38.2.2.2.2.2.2 tx (us q28.2.2.2.2.1 [(7, q49.1), (11, q49.2.1)]) q28.2.2.2.2.2.1 (us aB [(6, q49.2.2.1), (10, q49.2.2.2)]) q28.2.2.2.2.2.2.1 q28.2.2.2.2.2.2.2) (As := [.int q28.1]) (rest := []) ⟨hx, hb, hml, hown, hts⟩ (c_B_addQuestion l dC dI cy (fun i => ad (i + 3)) H.size q28.1 q28.2.2.2.2.1 q28.2.2.2.2.2.1 aB q28.2.2.2.2.2.2.1 q28.2.2.2.2.2.2.2 q49 e49) (cwV 1 hts (goodV m_ml_X4_114 m_im_X0_addQuestion m_se_X0_addQuestion m_in_X0 m_cd_X0_addQuestion) rfl rfl rfl (by decide +kernel) ⟨Nat.le_of_ble_eq_true rfl, Nat.le_of_ble_eq_true rfl⟩) hN hK hP hD hS hA [3, 4, 5, 6, 7, 8, 9, 10, 11, 12, 13, 14, 15, 16, 17, 18] [none, none, none, some 0, some 1, some 2, some 3, some 4, some 5, some 6, some 7, some 8, some 9, some 10, some 11, some 12, some 13, some 14, some 15] rfl rfl rfl rfl rfl rfl 3 rfl rfl rfl hl.1 rfl (Nat.le_of_ble_eq_true rfl) dX4_takeQuestion_49 ⟨Nat.zero_le _, Nat.zero_le _⟩ (fun H locs hP hD hS => ?_)
        have h' := Option.some.inj h
        rw [← hQQ]
        exact W.vret hx hb hr (fun t ht hW => ⟨⟨(), rfl, trivial, by rw [← hWQ, ← h', ht]; exact hP, va_K.moved hW.alike hK⟩, hS.F ht⟩) hS.2.2 dX4_takeQuestion_52
  · have h := g_f h cz
    refine lv_aload_n hx hb dX4_takeQuestion_12 rfl (lv_at hl 0 rfl) ?_
    refine lv_iconst (v := 3) hx hb dX4_takeQuestion_13 (by decide) ?_
    obtain ⟨q14, e14, h⟩ := g_b h
    refine callVis (cc := cX4_takeQuestion) (w1 := zzR ad cy (ad 3) (ad 10) (us iR [(3, q14.2.1), (4, q14.2.2)]) iT wT tx iB lB aB iC aC) (As := [.int ((3 : Int32))]) (rest := []) ⟨hx, hb, hml, hown, hts⟩ (c_R_failHere l dC dI cy ad H.size ((3 : Int32)) iR iT wT tx iB lB aB iC aC q14 e14) (cwV 1 hts (goodV m_ml_X4_77 m_im_X4_failHere m_se_X4_failHere m_in_X4 m_cd_X4_failHere) rfl rfl rfl (by decide +kernel) ⟨Nat.le_of_ble_eq_true rfl, Nat.le_of_ble_eq_true rfl⟩) hN hK hP hD hS hA rfl 0 rfl rfl rfl hl.1 rfl (Nat.le_of_ble_eq_true rfl) dX4_takeQuestion_14 ⟨Nat.zero_le _, Nat.zero_le _⟩ (fun H locs hP hD hS => ?_)
    refine lv_pop hx hb dX4_takeQuestion_17 rfl ?_
    have h' := Option.some.inj h
    rw [← hQQ]
    exact W.vret hx hb hr (fun t ht hW => ⟨⟨(), rfl, trivial, by rw [← hWQ, ← h', ht]; exact hP, va_K.moved hW.alike hK⟩, hS.F ht⟩) hS.2.2 dX4_takeQuestion_18
