def f_X_same (N : Nat) (a1 : Int32) (a2 : Int32) (iX5 : Int32) (iB11 : Int32) (aB10 : Nat → Int32) (lK3 : Nat → Int64) (lK9 : Nat → Int64) : Option Int32 := if iX5 = 0 then (some (-101 : Int32)) else ((f_X_isQuestion a1 iB11).bind fun q12 => (if q12 = 0 then (some (-102 : Int32)) else ((f_X_isQuestion a2 iB11).bind fun q20 => (if q20 = 0 then (some (-102 : Int32)) else ((f_B_question a1 iB11 aB10).bind fun q38 => ((f_B_question a2 iB11 aB10).bind fun q46 => ((f_K_agree N q38 q46 lK3 lK9).bind fun q49 => ((f_X_oneIf q49).bind fun q52 => (some q52)))))))))
set_option maxHeartbeats 8000000 in
set_option maxRecDepth 100000 in
theorem c_X_same (l : Launch) (dC : Nat → ClassId) (dI : Nat → Nat → Nat) (cy : Nat → ClassId) (ad : Nat → Nat) (sz : Nat) (rb : Nat) (rc : Nat) (pb : Nat) (N : Nat) (a1 : Int32) (a2 : Int32) (iX : Nat → Int32) (iR : Nat → Int32) (iT : Nat → Int32) (wT : Int64) (tx : Nat → Int32) (iB : Nat → Int32) (lB : Nat → Nat → Int64) (aB : Nat → Nat → Int32) (iC : Nat → Int32) (aC : Nat → Nat → Int32) (iD : Nat → Int32) (lD : Nat → Nat → Int64) (aD : Nat → Nat → Int32) (iE : Nat → Int32) (aE : Nat → Nat → Int32) (iK : Nat → Int32) (lK : Nat → Nat → Int64) (aK : Nat → Nat → Int32) (iW : Nat → Int32) (aW : Nat → Nat → Int32) (iP : Nat → Int32) (aP : Nat → Nat → Int32) (q : Int32) (h : f_X_same N a1 a2 (iX 5) (iB 11) (aB 10) (lK 3) (lK 9) = some q) : Met l yX7_same wsX7_same ({ frames := 3, cells := 0, slots := 0, locals := 67 } : Room) (cP (dC, dI) cy [.ref (ad 0), .int a1, .int a2] (zzX ad cy rb rc (ad 4) (ad 11) pb (ad 4) (ad 20) iX iR iT wT tx iB lB aB iC aC iD lD aD iE aE iK lK aK iW aW iP aP) sz) (cQi (dC, dI) cy q (zzX ad cy rb rc (ad 4) (ad 11) pb (ad 4) (ad 20) iX iR iT wT tx iB lB aB iC aC iD lD aD iE aE iK lK aK iW aW iP aP) (va_A (zzX ad cy rb rc (ad 4) (ad 11) pb (ad 4) (ad 20) iX iR iT wT tx iB lB aB iC aC iD lD aD iE aE iK lK aK iW aW iP aP) sz)) 0 0 (va_A (zzX ad cy rb rc (ad 4) (ad 11) pb (ad 4) (ad 20) iX iR iT wT tx iB lB aB iC aC iD lD aD iE aE iK lK aK iW aW iP aP) sz) := by
  refine Met.ofW (cc := cX7_same) (maxL := 3) (ret := (some .int)) (by decide) rfl ?_
  intro p e s m args below meth c s₁ B hml hv
  obtain ⟨hav, hsz, hP, hK, hD0, hN⟩ := hv
  have hx := B.exec
  have hb := B.bytes
  have hr := B.returns
  have hts := atoms_spec (ws := wsX7_same) B.pre
  have hown : s.vm.findClass RX7 = some m.cls := findClass_of_methodNamed B.named
  have hlocks := B.notSynchronized
  subst hsz
  have hD := hD0.self (sz := s.heap.size)
  generalize hAe : va_A (zzX ad cy rb rc (ad 4) (ad 11) pb (ad 4) (ad 20) iX iR iT wT tx iB lB aB iC aC iD lD aD iE aE iK lK aK iW aW iP aP) s.heap.size = A at hD ⊢
  have hA : ∀ q : Nat, s.heap.size ≤ q → A q := fun q h => by rw [← hAe]; exact Or.inr h
  have hS : va_S A s.heap s.heap [] := va_S.rf
  generalize hWQ : (zzX ad cy rb rc (ad 4) (ad 11) pb (ad 4) (ad 20) iX iR iT wT tx iB lB aB iC aC iD lD aD iE aE iK lK aK iW aW iP aP) = WQ
  generalize hQQ : MQ below (cQi (dC, dI) cy q WQ A) args s 0 0 A = QQ
  have hl := lv_entry ([.ref (ad 0), .int a1, .int a2] : List Value) (n := 3) (Nat.le_of_ble_eq_true rfl)
  have hfr := lg_entry_eq m ([.ref (ad 0), .int a1, .int a2] : List Value) 3
  rw [← hav] at hfr
  rw [hfr]
  clear hfr hav
  generalize (lg_sl ([.ref (ad 0), .int a1, .int a2] : List Value) ++ List.replicate (3 - (lg_sl ([.ref (ad 0), .int a1, .int a2] : List Value)).length) Slot.unset).toArray = ls at hl ⊢
  have hl : lv_has ls 3 [(0, .ref (ad 0)), (1, .int a1), (2, .int a2)] := hl
  have kf70 := hts _ (List.mem_cons_of_mem _ m_fl_X7_70)
  have ki7 := (fun w h => List.mem_cons_of_mem _ (i_X7 w h) : ∀ w ∈ u_ws RX7 TX7 9, w ∈ wsX7_same)
  have kf37 := hts _ (List.mem_cons_of_mem _ m_fl_X7_37)
  have kf16 := hts _ (List.mem_cons_of_mem _ m_fl_X7_16)
  refine (?_ : ∀ (H : Heap) (locs : List Loc), va_P (dC, dI) vwCl (zzX ad cy rb rc (ad 4) (ad 11) pb (ad 4) (ad 20) iX iR iT wT tx iB lB aB iC aC iD lD aD iE aE iK lK aK iW aW iP aP) H → va_D A (zzX ad cy rb rc (ad 4) (ad 11) pb (ad 4) (ad 20) iX iR iT wT tx iB lB aB iC aC iD lD aD iE aE iK lK aK iW aW iP aP) → va_S A s.heap H locs → W p l e ({ frames := 3, cells := 0, slots := 0, locals := 67 } : Room) s m args below meth c H locs 0 0 QQ (F0 m 0 ls [])) s.heap [] hP hD hS
  clear hP hD hS
  intro H locs hP hD hS
  unfold f_X_same at h
  refine lv_aload_n hx hb dX7_same_0 rfl (lv_at hl 0 rfl) ?_
  refine va_get (D := (dC, dI)) (ci := 7) (v := .int (iX 5)) (C := RX7) (T := TX7) (N := 9) hx hb hts ki7 hown hK hP 0 rfl rfl 5 (by decide) kf70 (fun _ h9 => h9) rfl dX7_same_1 ?_
  refine lv_if_ne (tgt := 10) hx hb dX7_same_4 (by decide) (fun cz => ?_) (fun cz => ?_)
  · have h := g_f h cz
    refine lv_aload_n hx hb dX7_same_10 rfl (lv_at hl 0 rfl) ?_
    refine lv_iload_n hx hb dX7_same_11 rfl (lv_at hl 1 rfl) ?_
    obtain ⟨q12, e12, h⟩ := g_b h
    refine callVis (cc := cX7_same) (w1 := zzX ad cy rb rc (ad 4) (ad 11) pb (ad 4) (ad 20) iX iR iT wT tx iB lB aB iC aC iD lD aD iE aE iK lK aK iW aW iP aP) (As := [.int a1]) (rest := []) ⟨hx, hb, hml, hown, hts⟩ (c_X_isQuestion l dC dI cy ad H.size rb rc pb a1 iX iR iT wT tx iB lB aB iC aC iD lD aD iE aE iK lK aK iW aW iP aP q12 e12) (cwV 1 hts (goodV m_ml_X7_152 m_im_X7_isQuestion m_se_X7_isQuestion m_in_X7 m_cd_X7_isQuestion) rfl rfl rfl (by decide +kernel) ⟨Nat.le_of_ble_eq_true rfl, Nat.le_of_ble_eq_true rfl⟩) hN hK hP hD hS hA rfl 0 rfl rfl rfl hl.1 rfl (Nat.le_of_ble_eq_true rfl) dX7_same_12 ⟨Nat.zero_le _, Nat.zero_le _⟩ (fun H locs hP hD hS => ?_)
    refine lv_if_eq (tgt := 26) hx hb dX7_same_15 (by decide) (fun cz => ?_) (fun cz => ?_)
    · have h := g_t h cz
      refine lv_bipush (v := (-102)) hx hb dX7_same_26 (by decide) ?_
      have h' := Option.some.inj h
      rw [← hQQ]
      exact W.iret (v := (-102 : Int32)) hx hb hr (fun t ht hW => ⟨⟨(-102 : Int32), (), rfl, by rw [← h'], by rw [← hWQ, ht]; exact hP, va_K.moved hW.alike hK⟩, hS.F ht⟩) hS.2.2 dX7_same_28
    · have h := g_f h cz
      refine lv_aload_n hx hb dX7_same_18 rfl (lv_at hl 0 rfl) ?_
      refine lv_iload_n hx hb dX7_same_19 rfl (lv_at hl 2 rfl) ?_
      obtain ⟨q20, e20, h⟩ := g_b h
      refine callVis (cc := cX7_same) (w1 := zzX ad cy rb rc (ad 4) (ad 11) pb (ad 4) (ad 20) iX iR iT wT tx iB lB aB iC aC iD lD aD iE aE iK lK aK iW aW iP aP) (As := [.int a2]) (rest := []) ⟨hx, hb, hml, hown, hts⟩ (c_X_isQuestion l dC dI cy ad H.size rb rc pb a2 iX iR iT wT tx iB lB aB iC aC iD lD aD iE aE iK lK aK iW aW iP aP q20 e20) (cwV 1 hts (goodV m_ml_X7_152 m_im_X7_isQuestion m_se_X7_isQuestion m_in_X7 m_cd_X7_isQuestion) rfl rfl rfl (by decide +kernel) ⟨Nat.le_of_ble_eq_true rfl, Nat.le_of_ble_eq_true rfl⟩) hN hK hP hD hS hA rfl 0 rfl rfl rfl hl.1 rfl (Nat.le_of_ble_eq_true rfl) dX7_same_20 ⟨Nat.zero_le _, Nat.zero_le _⟩ (fun H locs hP hD hS => ?_)
      refine lv_if_ne (tgt := 29) hx hb dX7_same_23 (by decide) (fun cz => ?_) (fun cz => ?_)
      · have h := g_f h cz
        refine lv_aload_n hx hb dX7_same_29 rfl (lv_at hl 0 rfl) ?_
        refine va_get (D := (dC, dI)) (ci := 7) (v := .ref (ad 36)) (C := RX7) (T := TX7) (N := 9) hx hb hts ki7 hown hK hP 0 rfl rfl 6 (by decide) kf37 (fun _ h9 => h9) rfl dX7_same_30 ?_
        refine lv_aload_n hx hb dX7_same_33 rfl (lv_at hl 0 rfl) ?_
        refine va_get (D := (dC, dI)) (ci := 7) (v := .ref (ad 4)) (C := RX7) (T := TX7) (N := 9) hx hb hts ki7 hown hK hP 0 rfl rfl 3 (by decide) kf16 (fun _ h9 => h9) rfl dX7_same_34 ?_
        refine lv_iload_n hx hb dX7_same_37 rfl (lv_at hl 1 rfl) ?_
        obtain ⟨q38, e38, h⟩ := g_b h
        refine callVi (cc := cX7_same) (ws' := zzX ad cy rb rc (ad 4) (ad 11) pb (ad 4) (ad 20) iX iR iT wT tx iB lB aB iC aC iD lD aD iE aE iK lK aK iW aW iP aP) (As := [.int a1]) (rest := [.ref (ad 36)]) ⟨hx, hb, hml, hown, hts⟩ (c_B_question l dC dI cy (fun i => ad (i + 4)) H.size a1 iB lB aB iC aC q38 e38) (cwV 1 hts (goodV m_ml_X7_155 m_im_X0_question m_se_X0_question m_in_X0 m_cd_X0_question) rfl rfl rfl (by decide +kernel) ⟨Nat.le_of_ble_eq_true rfl, Nat.le_of_ble_eq_true rfl⟩) hN hK hP hD hS hA [4, 5, 6, 7, 8, 9, 10, 11, 12, 13, 14, 15, 16, 17, 18, 19] [none, none, none, none, some 0, some 1, some 2, some 3, some 4, some 5, some 6, some 7, some 8, some 9, some 10, some 11, some 12, some 13, some 14, some 15, none, none, none, none, none, none, none, none, none, none, none, none, none, none, none, none, none, none, none, none, none, none, none, none, none, none, none, none, none, none, none, none, none, none] rfl rfl rfl rfl rfl rfl 4 rfl rfl rfl hl.1 rfl (Nat.le_of_ble_eq_true rfl) dX7_same_38 ⟨Nat.zero_le _, Nat.zero_le _⟩ (fun H locs hP hD hS => ?_)
        refine lv_aload_n hx hb dX7_same_41 rfl (lv_at hl 0 rfl) ?_
        refine va_get (D := (dC, dI)) (ci := 7) (v := .ref (ad 4)) (C := RX7) (T := TX7) (N := 9) hx hb hts ki7 hown hK hP 0 rfl rfl 3 (by decide) kf16 (fun _ h9 => h9) rfl dX7_same_42 ?_
        refine lv_iload_n hx hb dX7_same_45 rfl (lv_at hl 2 rfl) ?_
        obtain ⟨q46, e46, h⟩ := g_b h
        refine callVi (cc := cX7_same) (ws' := zzX ad cy rb rc (ad 4) (ad 11) pb (ad 4) (ad 20) iX iR iT wT tx iB lB aB iC aC iD lD aD iE aE iK lK aK iW aW iP aP) (As := [.int a2]) (rest := [.int q38, .ref (ad 36)]) ⟨hx, hb, hml, hown, hts⟩ (c_B_question l dC dI cy (fun i => ad (i + 4)) H.size a2 iB lB aB iC aC q46 e46) (cwV 1 hts (goodV m_ml_X7_155 m_im_X0_question m_se_X0_question m_in_X0 m_cd_X0_question) rfl rfl rfl (by decide +kernel) ⟨Nat.le_of_ble_eq_true rfl, Nat.le_of_ble_eq_true rfl⟩) hN hK hP hD hS hA [4, 5, 6, 7, 8, 9, 10, 11, 12, 13, 14, 15, 16, 17, 18, 19] [none, none, none, none, some 0, some 1, some 2, some 3, some 4, some 5, some 6, some 7, some 8, some 9, some 10, some 11, some 12, some 13, some 14, some 15, none, none, none, none, none, none, none, none, none, none, none, none, none, none, none, none, none, none, none, none, none, none, none, none, none, none, none, none, none, none, none, none, none, none] rfl rfl rfl rfl rfl rfl 4 rfl rfl rfl hl.1 rfl (Nat.le_of_ble_eq_true rfl) dX7_same_46 ⟨Nat.zero_le _, Nat.zero_le _⟩ (fun H locs hP hD hS => ?_)
        obtain ⟨q49, e49, h⟩ := g_b h
        refine callVi (cc := cX7_same) (ws' := zzX ad cy rb rc (ad 4) (ad 11) pb (ad 4) (ad 20) iX iR iT wT tx iB lB aB iC aC iD lD aD iE aE iK lK aK iW aW iP aP) (As := [.int q38, .int q46]) (rest := []) ⟨hx, hb, hml, hown, hts⟩ (c_K_agree l dC dI cy (fun i => ad (([36, 37, 38, 39, 40, 41, 42, 43, 44, 45, 46, 4, 5, 6, 7, 8, 9, 10, 11, 12, 13, 14, 15, 16, 17, 18, 19] : List Nat).getD i 0)) H.size N q38 q46 iK lK aK iB lB aB iC aC q49 e49) (cwV 2 hts (goodV m_ml_X7_195 m_im_X2_agree m_se_X2_agree m_in_X2 m_cd_X2_agree) rfl rfl rfl (by decide +kernel) ⟨Nat.le_of_ble_eq_true rfl, Nat.le_of_ble_eq_true rfl⟩) hN hK hP hD hS hA [36, 37, 38, 39, 40, 41, 42, 43, 44, 45, 46, 4, 5, 6, 7, 8, 9, 10, 11, 12, 13, 14, 15, 16, 17, 18, 19] [none, none, none, none, some 11, some 12, some 13, some 14, some 15, some 16, some 17, some 18, some 19, some 20, some 21, some 22, some 23, some 24, some 25, some 26, none, none, none, none, none, none, none, none, none, none, none, none, none, none, none, none, some 0, some 1, some 2, some 3, some 4, some 5, some 6, some 7, some 8, some 9, some 10, none, none, none, none, none, none, none] rfl rfl rfl rfl rfl rfl 36 rfl rfl rfl hl.1 rfl (Nat.le_of_ble_eq_true rfl) dX7_same_49 ⟨Nat.zero_le _, Nat.zero_le _⟩ (fun H locs hP hD hS => ?_)
        obtain ⟨q52, e52, h⟩ := g_b h
        refine callSi (cc := cX7_same) (ws' := zzX ad cy rb rc (ad 4) (ad 11) pb (ad 4) (ad 20) iX iR iT wT tx iB lB aB iC aC iD lD aD iE aE iK lK aK iW aW iP aP) (As := [.int q49]) (rest := []) ⟨hx, hb, hml, hown, hts⟩ (c_X_oneIf l dC dI cy ad H.size q49 q52 e52) (va_cwS 1 hts (goodS m_ml_X7_148 m_st_X7_oneIf m_in_X7 m_cd_X7_oneIf) rfl rfl rfl (by decide +kernel) ⟨Nat.le_of_ble_eq_true rfl, Nat.le_of_ble_eq_true rfl⟩) hN hK hP hD hS hA [] [none, none, none, none, none, none, none, none, none, none, none, none, none, none, none, none, none, none, none, none, none, none, none, none, none, none, none, none, none, none, none, none, none, none, none, none, none, none, none, none, none, none, none, none, none, none, none, none, none, none, none, none, none, none] rfl rfl rfl rfl rfl rfl rfl hl.1 rfl (Nat.le_of_ble_eq_true rfl) dX7_same_52 ⟨Nat.zero_le _, Nat.zero_le _⟩ (fun H locs hP hD hS => ?_)
        have h' := Option.some.inj h
        rw [← hQQ]
        exact W.iret (v := q52) hx hb hr (fun t ht hW => ⟨⟨q52, (), rfl, by rw [← h'], by rw [← hWQ, ht]; exact hP, va_K.moved hW.alike hK⟩, hS.F ht⟩) hS.2.2 dX7_same_55
      · have h := g_t h cz
        refine lv_bipush (v := (-102)) hx hb dX7_same_26 (by decide) ?_
        have h' := Option.some.inj h
        rw [← hQQ]
        exact W.iret (v := (-102 : Int32)) hx hb hr (fun t ht hW => ⟨⟨(-102 : Int32), (), rfl, by rw [← h'], by rw [← hWQ, ht]; exact hP, va_K.moved hW.alike hK⟩, hS.F ht⟩) hS.2.2 dX7_same_28
  · have h := g_t h cz
    refine lv_bipush (v := (-101)) hx hb dX7_same_7 (by decide) ?_
    have h' := Option.some.inj h
    rw [← hQQ]
    exact W.iret (v := (-101 : Int32)) hx hb hr (fun t ht hW => ⟨⟨(-101 : Int32), (), rfl, by rw [← h'], by rw [← hWQ, ht]; exact hP, va_K.moved hW.alike hK⟩, hS.F ht⟩) hS.2.2 dX7_same_9
