def f_R_takeSingle (N : Nat) (iR3 : Int32) (iR4 : Int32) (iT1 : Int32) (iT2 : Int32) (iT3 : Int32) (iT4 : Int32) (wT : Int64) (tx : Nat → Int32) (iB3 : Int32) (iB5 : Int32) (iB7 : Int32) (iB13 : Int32) (iB14 : Int32) (lB2 : Nat → Int64) (lB4 : Nat → Int64) (aB6 : Nat → Int32) : Option (Int32 × Int32 × Int32 × Int32 × Int32 × Int64 × Int32 × Int32 × Int32 × (Nat → Int64) × (Nat → Int32)) := (f_T_step N iT1 iT2 iT3 iT4 wT tx).bind fun q4 => ((f_R_takeRole N iR3 iR4 iT1 q4.1 q4.2.1 q4.2.2.1 q4.2.2.2 tx iB3 iB5 lB2 lB4).bind fun q16 => (if q16.1 = (-1 : Int32) then (some (q16.2.1, q16.2.2.1, q16.2.2.2.1, q16.2.2.2.2.1, q16.2.2.2.2.2.1, q16.2.2.2.2.2.2.1, q16.2.2.2.2.2.2.2.1, iB7, iB13, q16.2.2.2.2.2.2.2.2, aB6)) else ((f_B_isOrdered q16.1 iB14).bind fun q31 => (if q31 = 0 then ((f_R_takeEnd N q16.2.1 q16.2.2.1 iT1 q16.2.2.2.1 q16.2.2.2.2.1 q16.2.2.2.2.2.1 q16.2.2.2.2.2.2.1 tx).bind fun q49 => (if q49.1 = 0 then (some (q49.2.1, q49.2.2.1, q49.2.2.2.1, q49.2.2.2.2.1, q49.2.2.2.2.2.1, q49.2.2.2.2.2.2, q16.2.2.2.2.2.2.2.1, iB7, iB13, q16.2.2.2.2.2.2.2.2, aB6)) else ((f_B_addSingle q16.1 iB7 iB13 aB6).bind fun q60 => (some (q49.2.1, q49.2.2.1, q49.2.2.2.1, q49.2.2.2.2.1, q49.2.2.2.2.2.1, q49.2.2.2.2.2.2, q16.2.2.2.2.2.2.2.1, q60.1, q60.2.1, q16.2.2.2.2.2.2.2.2, q60.2.2))))) else ((f_R_fail ((6 : Int32)) q4.2.1 q16.2.1 q16.2.2.1).bind fun q41 => (some (q41.2.1, q41.2.2, q16.2.2.2.1, q16.2.2.2.2.1, q16.2.2.2.2.2.1, q16.2.2.2.2.2.2.1, q16.2.2.2.2.2.2.2.1, iB7, iB13, q16.2.2.2.2.2.2.2.2, aB6)))))))
set_option maxHeartbeats 8000000 in
set_option maxRecDepth 100000 in
theorem c_R_takeSingle (l : Launch) (dC : Nat → ClassId) (dI : Nat → Nat → Nat) (cy : Nat → ClassId) (ad : Nat → Nat) (sz : Nat) (N : Nat) (iR : Nat → Int32) (iT : Nat → Int32) (wT : Int64) (tx : Nat → Int32) (iB : Nat → Int32) (lB : Nat → Nat → Int64) (aB : Nat → Nat → Int32) (iC : Nat → Int32) (aC : Nat → Nat → Int32) (q : Int32 × Int32 × Int32 × Int32 × Int32 × Int64 × Int32 × Int32 × Int32 × (Nat → Int64) × (Nat → Int32)) (h : f_R_takeSingle N (iR 3) (iR 4) (iT 1) (iT 2) (iT 3) (iT 4) wT tx (iB 3) (iB 5) (iB 7) (iB 13) (iB 14) (lB 2) (lB 4) (aB 6) = some q) : Met l yX4_takeSingle wsX4_takeSingle ({ frames := 4, cells := 0, slots := 0, locals := 84 } : Room) (cP (dC, dI) cy [.ref (ad 0)] (zzR ad cy (ad 3) (ad 10) iR iT wT tx iB lB aB iC aC) sz) (cQv (dC, dI) cy (zzR ad cy (ad 3) (ad 10) (us iR [(3, q.1), (4, q.2.1)]) (us iT [(2, q.2.2.1), (3, q.2.2.2.1), (4, q.2.2.2.2.1)]) q.2.2.2.2.2.1 tx (us iB [(5, q.2.2.2.2.2.2.1), (7, q.2.2.2.2.2.2.2.1), (13, q.2.2.2.2.2.2.2.2.1)]) (us lB [(4, q.2.2.2.2.2.2.2.2.2.1)]) (us aB [(6, q.2.2.2.2.2.2.2.2.2.2)]) iC aC) (va_A (zzR ad cy (ad 3) (ad 10) iR iT wT tx iB lB aB iC aC) sz)) 0 0 (va_A (zzR ad cy (ad 3) (ad 10) iR iT wT tx iB lB aB iC aC) sz) := by
  refine Met.ofW (cc := cX4_takeSingle) (maxL := 3) (ret := none) (by decide) rfl ?_
  intro p e s m args below meth c s₁ B hml hv
  obtain ⟨hav, hsz, hP, hK, hD0, hN⟩ := hv
  have hx := B.exec
  have hb := B.bytes
  have hr := B.returns
  have hts := atoms_spec (ws := wsX4_takeSingle) B.pre
  have hown : s.vm.findClass RX4 = some m.cls := findClass_of_methodNamed B.named
  have hlocks := B.notSynchronized
  subst hsz
  have hD := hD0.self (sz := s.heap.size)
  generalize hAe : va_A (zzR ad cy (ad 3) (ad 10) iR iT wT tx iB lB aB iC aC) s.heap.size = A at hD ⊢
  have hA : ∀ q : Nat, s.heap.size ≤ q → A q := fun q h => by rw [← hAe]; exact Or.inr h
  have hS : va_S A s.heap s.heap [] := va_S.rf
  generalize hWQ : (zzR ad cy (ad 3) (ad 10) (us iR [(3, q.1), (4, q.2.1)]) (us iT [(2, q.2.2.1), (3, q.2.2.2.1), (4, q.2.2.2.2.1)]) q.2.2.2.2.2.1 tx (us iB [(5, q.2.2.2.2.2.2.1), (7, q.2.2.2.2.2.2.2.1), (13, q.2.2.2.2.2.2.2.2.1)]) (us lB [(4, q.2.2.2.2.2.2.2.2.2.1)]) (us aB [(6, q.2.2.2.2.2.2.2.2.2.2)]) iC aC) = WQ
  generalize hQQ : MQ below (cQv (dC, dI) cy WQ A) args s 0 0 A = QQ
  have hl := lv_entry ([.ref (ad 0)] : List Value) (n := 3) (Nat.le_of_ble_eq_true rfl)
  have hfr := lg_entry_eq m ([.ref (ad 0)] : List Value) 3
  rw [← hav] at hfr
  rw [hfr]
  clear hfr hav
  generalize (lg_sl ([.ref (ad 0)] : List Value) ++ List.replicate (3 - (lg_sl ([.ref (ad 0)] : List Value)).length) Slot.unset).toArray = ls at hl ⊢
  have hl : lv_has ls 3 [(0, .ref (ad 0))] := hl
  have kf20 := hts _ (List.mem_cons_of_mem _ m_fl_X4_20)
  have ki4 := (fun w h => List.mem_cons_of_mem _ (i_X4 w h) : ∀ w ∈ u_ws RX4 TX4 5, w ∈ wsX4_takeSingle)
  have kf70 := hts _ (List.mem_cons_of_mem _ m_fl_X4_70)
  have ki5 := (fun w h => List.mem_cons_of_mem _ (i_X5 w h) : ∀ w ∈ u_ws RX5 TX5 6, w ∈ wsX4_takeSingle)
  have kf24 := hts _ (List.mem_cons_of_mem _ m_fl_X4_24)
  refine (?_ : ∀ (H : Heap) (locs : List Loc), va_P (dC, dI) vwCl (zzR ad cy (ad 3) (ad 10) iR iT wT tx iB lB aB iC aC) H → va_D A (zzR ad cy (ad 3) (ad 10) iR iT wT tx iB lB aB iC aC) → va_S A s.heap H locs → W p l e ({ frames := 4, cells := 0, slots := 0, locals := 84 } : Room) s m args below meth c H locs 0 0 QQ (F0 m 0 ls [])) s.heap [] hP hD hS
  clear hP hD hS
  intro H locs hP hD hS
  unfold f_R_takeSingle at h
  refine lv_aload_n hx hb dX4_takeSingle_0 rfl (lv_at hl 0 rfl) ?_
  refine va_get (D := (dC, dI)) (ci := 4) (v := .ref (ad 1)) (C := RX4) (T := TX4) (N := 5) hx hb hts ki4 hown hK hP 0 rfl rfl 0 (by decide) kf20 (fun _ h9 => h9) rfl dX4_takeSingle_1 ?_
  obtain ⟨q4, e4, h⟩ := g_b h
  refine callVv (cc := cX4_takeSingle) (ws' := zzR ad cy (ad 3) (ad 10) iR (us iT [(2, q4.1), (3, q4.2.1), (4, q4.2.2.1)]) q4.2.2.2 tx iB lB aB iC aC) (As := []) (rest := []) ⟨hx, hb, hml, hown, hts⟩ (c_T_step l dC dI cy (fun i => ad (i + 1)) H.size N iT wT tx q4 e4) (cwV 0 hts (goodV m_ml_X4_87 m_im_X5_step m_se_X5_step m_in_X5 m_cd_X5_step) rfl rfl rfl (by decide +kernel) ⟨Nat.le_of_ble_eq_true rfl, Nat.le_of_ble_eq_true rfl⟩) hN hK hP hD hS hA [1, 2] [none, some 0, some 1, none, none, none, none, none, none, none, none, none, none, none, none, none, none, none, none] rfl rfl rfl rfl rfl rfl 1 rfl rfl rfl hl.1 rfl (Nat.le_of_ble_eq_true rfl) dX4_takeSingle_4 ⟨Nat.zero_le _, Nat.zero_le _⟩ (fun H locs hP hD hS => ?_)
  refine lv_aload_n hx hb dX4_takeSingle_7 rfl (lv_at hl 0 rfl) ?_
  refine va_get (D := (dC, dI)) (ci := 4) (v := .ref (ad 1)) (C := RX4) (T := TX4) (N := 5) hx hb hts ki4 hown hK hP 0 rfl rfl 0 (by decide) kf20 (fun _ h9 => h9) rfl dX4_takeSingle_8 ?_
  refine va_get (D := (dC, dI)) (ci := 5) (v := .int q4.2.1) (C := RX5) (T := TX5) (N := 6) hx hb hts ki5 hown hK hP 1 rfl rfl 3 (by decide) kf70 (fun _ h9 => h9) rfl dX4_takeSingle_11 ?_
  refine lv_istore_n (lv' := [(1, .int q4.2.1), (0, .ref (ad 0))]) hx hb dX4_takeSingle_14 rfl hl (by decide) rfl (fun ls hl => ?_)
  refine lv_aload_n hx hb dX4_takeSingle_15 rfl (lv_at hl 1 rfl) ?_
  obtain ⟨q16, e16, h⟩ := g_b h
  refine callVis (cc := cX4_takeSingle) (w1 := zzR ad cy (ad 3) (ad 10) (us iR [(3, q16.2.1), (4, q16.2.2.1)]) (us iT [(2, q16.2.2.2.1), (3, q16.2.2.2.2.1), (4, q16.2.2.2.2.2.1)]) q16.2.2.2.2.2.2.1 tx (us iB [(5, q16.2.2.2.2.2.2.2.1)]) (us lB [(4, q16.2.2.2.2.2.2.2.2)]) aB iC aC) (As := []) (rest := []) ⟨hx, hb, hml, hown, hts⟩ (c_R_takeRole l dC dI cy ad H.size N iR ((us iT [(2, q4.1), (3, q4.2.1), (4, q4.2.2.1)])) q4.2.2.2 tx iB lB aB iC aC q16 e16) (cwV 0 hts (goodV m_ml_X4_117 m_im_X4_takeRole m_se_X4_takeRole m_in_X4 m_cd_X4_takeRole) rfl rfl rfl (by decide +kernel) ⟨Nat.le_of_ble_eq_true rfl, Nat.le_of_ble_eq_true rfl⟩) hN hK hP hD hS hA rfl 0 rfl rfl rfl hl.1 rfl (Nat.le_of_ble_eq_true rfl) dX4_takeSingle_16 ⟨Nat.zero_le _, Nat.zero_le _⟩ (fun H locs hP hD hS => ?_)
  refine lv_istore_n (lv' := [(2, .int q16.1), (1, .int q4.2.1), (0, .ref (ad 0))]) hx hb dX4_takeSingle_19 rfl hl (by decide) rfl (fun ls hl => ?_)
  refine lv_iload_n hx hb dX4_takeSingle_20 rfl (lv_at hl 0 rfl) ?_
  refine lv_iconst (v := (-1)) hx hb dX4_takeSingle_21 (by decide) ?_
  refine lv_icmp_ne (tgt := 26) hx hb dX4_takeSingle_22 (by decide) (fun cz => ?_) (fun cz => ?_)
  · have h := g_f h cz
    refine lv_aload_n hx hb dX4_takeSingle_26 rfl (lv_at hl 2 rfl) ?_
    refine va_get (D := (dC, dI)) (ci := 4) (v := .ref (ad 3)) (C := RX4) (T := TX4) (N := 5) hx hb hts ki4 hown hK hP 0 rfl rfl 1 (by decide) kf24 (fun _ h9 => h9) rfl dX4_takeSingle_27 ?_
    refine lv_iload_n hx hb dX4_takeSingle_30 rfl (lv_at hl 0 rfl) ?_
    obtain ⟨q31, e31, h⟩ := g_b h
    refine callVi (cc := cX4_takeSingle) (ws' := zzR ad cy (ad 3) (ad 10) (us iR [(3, q16.2.1), (4, q16.2.2.1)]) (us iT [(2, q16.2.2.2.1), (3, q16.2.2.2.2.1), (4, q16.2.2.2.2.2.1)]) q16.2.2.2.2.2.2.1 tx (us iB [(5, q16.2.2.2.2.2.2.2.1)]) (us lB [(4, q16.2.2.2.2.2.2.2.2)]) aB iC aC) (As := [.int q16.1]) (rest := []) ⟨hx, hb, hml, hown, hts⟩ (c_B_isOrdered l dC dI cy (fun i => ad (i + 3)) H.size q16.1 ((us iB [(5, q16.2.2.2.2.2.2.2.1)])) ((us lB [(4, q16.2.2.2.2.2.2.2.2)])) aB iC aC q31 e31) (cwV 1 hts (goodV m_ml_X4_132 m_im_X0_isOrdered m_se_X0_isOrdered m_in_X0 m_cd_X0_isOrdered) rfl rfl rfl (by decide +kernel) ⟨Nat.le_of_ble_eq_true rfl, Nat.le_of_ble_eq_true rfl⟩) hN hK hP hD hS hA [3, 4, 5, 6, 7, 8, 9, 10, 11, 12, 13, 14, 15, 16, 17, 18] [none, none, none, some 0, some 1, some 2, some 3, some 4, some 5, some 6, some 7, some 8, some 9, some 10, some 11, some 12, some 13, some 14, some 15] rfl rfl rfl rfl rfl rfl 3 rfl rfl rfl hl.1 rfl (Nat.le_of_ble_eq_true rfl) dX4_takeSingle_31 ⟨Nat.zero_le _, Nat.zero_le _⟩ (fun H locs hP hD hS => ?_)
    refine lv_if_eq (tgt := 48) hx hb dX4_takeSingle_34 (by decide) (fun cz => ?_) (fun cz => ?_)
    · have h := g_t h cz
      refine lv_aload_n hx hb dX4_takeSingle_48 rfl (lv_at hl 2 rfl) ?_
      obtain ⟨q49, e49, h⟩ := g_b h
      refine callVis (cc := cX4_takeSingle) (w1 := zzR ad cy (ad 3) (ad 10) (us iR [(3, q49.2.1), (4, q49.2.2.1)]) (us iT [(2, q49.2.2.2.1), (3, q49.2.2.2.2.1), (4, q49.2.2.2.2.2.1)]) q49.2.2.2.2.2.2 tx (us iB [(5, q16.2.2.2.2.2.2.2.1)]) (us lB [(4, q16.2.2.2.2.2.2.2.2)]) aB iC aC) (As := []) (rest := []) ⟨hx, hb, hml, hown, hts⟩ (c_R_takeEnd l dC dI cy ad H.size N ((us iR [(3, q16.2.1), (4, q16.2.2.1)])) ((us iT [(2, q16.2.2.2.1), (3, q16.2.2.2.2.1), (4, q16.2.2.2.2.2.1)])) q16.2.2.2.2.2.2.1 tx ((us iB [(5, q16.2.2.2.2.2.2.2.1)])) ((us lB [(4, q16.2.2.2.2.2.2.2.2)])) aB iC aC q49 e49) (cwV 0 hts (goodV m_ml_X4_104 m_im_X4_takeEnd m_se_X4_takeEnd m_in_X4 m_cd_X4_takeEnd) rfl rfl rfl (by decide +kernel) ⟨Nat.le_of_ble_eq_true rfl, Nat.le_of_ble_eq_true rfl⟩) hN hK hP hD hS hA rfl 0 rfl rfl rfl hl.1 rfl (Nat.le_of_ble_eq_true rfl) dX4_takeSingle_49 ⟨Nat.zero_le _, Nat.zero_le _⟩ (fun H locs hP hD hS => ?_)
      refine lv_if_eq (tgt := 63) hx hb dX4_takeSingle_52 (by decide) (fun cz => ?_) (fun cz => ?_)
      · have h := g_t h cz
        have h' := Option.some.inj h
        rw [← hQQ]
        exact W.vret hx hb hr (fun t ht hW => ⟨⟨(), rfl, trivial, by rw [← hWQ, ← h', ht]; exact hP, va_K.moved hW.alike hK⟩, hS.F ht⟩) hS.2.2 dX4_takeSingle_63
      · have h := g_f h cz
        refine lv_aload_n hx hb dX4_takeSingle_55 rfl (lv_at hl 2 rfl) ?_
        refine va_get (D := (dC, dI)) (ci := 4) (v := .ref (ad 3)) (C := RX4) (T := TX4) (N := 5) hx hb hts ki4 hown hK hP 0 rfl rfl 1 (by decide) kf24 (fun _ h9 => h9) rfl dX4_takeSingle_56 ?_
        refine lv_iload_n hx hb dX4_takeSingle_59 rfl (lv_at hl 0 rfl) ?_
        obtain ⟨q60, e60, h⟩ := g_b h
        refine callVv (cc := cX4_takeSingle) (ws' := zzR ad cy (ad 3) (ad 10) (us iR [(3, q49.2.1), (4, q49.2.2.1)]) (us iT [(2, q49.2.2.2.1), (3, q49.2.2.2.2.1), (4, q49.2.2.2.2.2.1)]) q49.2.2.2.2.2.2 tx (us iB [(5, q16.2.2.2.2.2.2.2.1), (7, q60.1), (13, q60.2.1)]) (us lB [(4, q16.2.2.2.2.2.2.2.2)]) (us aB [(6, q60.2.2)]) iC aC) (As := [.int q16.1]) (rest := []) ⟨hx, hb, hml, hown, hts⟩ (c_B_addSingle l dC dI cy (fun i => ad (i + 3)) H.size q16.1 ((us iB [(5, q16.2.2.2.2.2.2.2.1)])) ((us lB [(4, q16.2.2.2.2.2.2.2.2)])) aB iC aC q60 e60) (cwV 1 hts (goodV m_ml_X4_135 m_im_X0_addSingle m_se_X0_addSingle m_in_X0 m_cd_X0_addSingle) rfl rfl rfl (by decide +kernel) ⟨Nat.le_of_ble_eq_true rfl, Nat.le_of_ble_eq_true rfl⟩) hN hK hP hD hS hA [3, 4, 5, 6, 7, 8, 9, 10, 11, 12, 13, 14, 15, 16, 17, 18] [none, none, none, some 0, some 1, some 2, some 3, some 4, some 5, some 6, some 7, some 8, some 9, some 10, some 11, some 12, some 13, some 14, some 15] rfl rfl rfl rfl rfl rfl 3 rfl rfl rfl hl.1 rfl (Nat.le_of_ble_eq_true rfl) dX4_takeSingle_60 ⟨Nat.zero_le _, Nat.zero_le _⟩ (fun H locs hP hD hS => ?_)
        have h' := Option.some.inj h
        rw [← hQQ]
        exact W.vret hx hb hr (fun t ht hW => ⟨⟨(), rfl, trivial, by rw [← hWQ, ← h', ht]; exact hP, va_K.moved hW.alike hK⟩, hS.F ht⟩) hS.2.2 dX4_takeSingle_63
    · have h := g_f h cz
      refine lv_aload_n hx hb dX4_takeSingle_37 rfl (lv_at hl 2 rfl) ?_
      refine lv_bipush (v := 6) hx hb dX4_takeSingle_38 (by decide) ?_
      refine lv_iload_n hx hb dX4_takeSingle_40 rfl (lv_at hl 1 rfl) ?_
      obtain ⟨q41, e41, h⟩ := g_b h
      refine callVis (cc := cX4_takeSingle) (w1 := zzR ad cy (ad 3) (ad 10) (us iR [(3, q41.2.1), (4, q41.2.2)]) (us iT [(2, q16.2.2.2.1), (3, q16.2.2.2.2.1), (4, q16.2.2.2.2.2.1)]) q16.2.2.2.2.2.2.1 tx (us iB [(5, q16.2.2.2.2.2.2.2.1)]) (us lB [(4, q16.2.2.2.2.2.2.2.2)]) aB iC aC) (As := [.int ((6 : Int32)), .int q4.2.1]) (rest := []) ⟨hx, hb, hml, hown, hts⟩ (c_R_fail l dC dI cy ad H.size ((6 : Int32)) q4.2.1 ((us iR [(3, q16.2.1), (4, q16.2.2.1)])) ((us iT [(2, q16.2.2.2.1), (3, q16.2.2.2.2.1), (4, q16.2.2.2.2.2.1)])) q16.2.2.2.2.2.2.1 tx ((us iB [(5, q16.2.2.2.2.2.2.2.1)])) ((us lB [(4, q16.2.2.2.2.2.2.2.2)])) aB iC aC q41 e41) (cwV 2 hts (goodV m_ml_X4_73 m_im_X4_fail m_se_X4_fail m_in_X4 m_cd_X4_fail) rfl rfl rfl (by decide +kernel) ⟨Nat.le_of_ble_eq_true rfl, Nat.le_of_ble_eq_true rfl⟩) hN hK hP hD hS hA rfl 0 rfl rfl rfl hl.1 rfl (Nat.le_of_ble_eq_true rfl) dX4_takeSingle_41 ⟨Nat.zero_le _, Nat.zero_le _⟩ (fun H locs hP hD hS => ?_)
      refine lv_pop hx hb dX4_takeSingle_44 rfl ?_
      refine lv_goto (tgt := 63) hx hb dX4_takeSingle_45 (by decide) ?_
      have h' := Option.some.inj h
      rw [← hQQ]
      exact W.vret hx hb hr (fun t ht hW => ⟨⟨(), rfl, trivial, by rw [← hWQ, ← h', ht]; exact hP, va_K.moved hW.alike hK⟩, hS.F ht⟩) hS.2.2 dX4_takeSingle_63
  · have h := g_t h cz
    have h' := Option.some.inj h
    rw [← hQQ]
    exact W.vret hx hb hr (fun t ht hW => ⟨⟨(), rfl, trivial, by rw [← hWQ, ← h', ht]; exact hP, va_K.moved hW.alike hK⟩, hS.F ht⟩) hS.2.2 dX4_takeSingle_25
