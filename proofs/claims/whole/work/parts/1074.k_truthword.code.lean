def f_K_truthWord (a1 : Int32) (a2 : Int32) (iC4 : Int32) (aC0 : Nat → Int32) (aC1 : Nat → Int32) (aC2 : Nat → Int32) (aC3 : Nat → Int32) (lK3 : Nat → Int64) : Option Int64 := (f_C_leftOf a1 iC4 aC1).bind fun q5 => ((f_C_rightOf a1 iC4 aC2).bind fun q14 => ((f_C_sortOf a1 iC4 aC0).bind fun q24 => (if q24 = (1 : Int32) then (some (-1 : Int64)) else (if q24 = (2 : Int32) then (some (0 : Int64)) else (if q24 = (3 : Int32) then ((f_K_truthOf q5 a2 lK3).bind fun q77 => (some (q77 ^^^ (-1 : Int64)))) else (if q24 = (4 : Int32) then ((f_C_atomOf a1 iC4 aC3).bind fun q137 => ((f_K_bitPattern q137 a2).bind fun q141 => (some q141))) else (if q24 = (5 : Int32) then ((f_C_atomOf a1 iC4 aC3).bind fun q120 => ((f_K_bitPattern q120 a2).bind fun q124 => (some (q124 ^^^ (-1 : Int64))))) else (if q24 = (6 : Int32) then ((f_K_truthOf q5 a2 lK3).bind fun q88 => ((f_K_truthOf q14 a2 lK3).bind fun q95 => (some (q88 &&& q95)))) else (if q24 = (7 : Int32) then ((f_K_truthOf q5 a2 lK3).bind fun q103 => ((f_K_truthOf q14 a2 lK3).bind fun q110 => (some (q103 ||| q110)))) else ((f_C_atomOf a1 iC4 aC3).bind fun q137 => ((f_K_bitPattern q137 a2).bind fun q141 => (some q141))))))))))))
set_option maxHeartbeats 8000000 in
set_option maxRecDepth 100000 in
theorem c_K_truthWord (l : Launch) (dC : Nat → ClassId) (dI : Nat → Nat → Nat) (cy : Nat → ClassId) (ad : Nat → Nat) (sz : Nat) (a1 : Int32) (a2 : Int32) (iK : Nat → Int32) (lK : Nat → Nat → Int64) (aK : Nat → Nat → Int32) (iB : Nat → Int32) (lB : Nat → Nat → Int64) (aB : Nat → Nat → Int32) (iC : Nat → Int32) (aC : Nat → Nat → Int32) (q : Int64) (h : f_K_truthWord a1 a2 (iC 4) (aC 0) (aC 1) (aC 2) (aC 3) (lK 3) = some q) : Met l yX2_truthWord wsX2_truthWord ({ frames := 1, cells := 0, slots := 0, locals := 22 } : Room) (cP (dC, dI) cy [.ref (ad 0), .int a1, .int a2] (zzK ad cy (ad 11) (ad 18) iK lK aK iB lB aB iC aC) sz) (cQl (dC, dI) cy q (zzK ad cy (ad 11) (ad 18) iK lK aK iB lB aB iC aC) (va_A (zzK ad cy (ad 11) (ad 18) iK lK aK iB lB aB iC aC) sz)) 0 0 (va_A (zzK ad cy (ad 11) (ad 18) iK lK aK iB lB aB iC aC) sz) := by
  refine Met.ofW (cc := cX2_truthWord) (maxL := 5) (ret := (some .long)) (by decide) rfl ?_
  intro p e s m args below meth c s₁ B hml hv
  obtain ⟨hav, hsz, hP, hK, hD0, hN⟩ := hv
  have hx := B.exec
  have hb := B.bytes
  have hr := B.returns
  have hts := atoms_spec (ws := wsX2_truthWord) B.pre
  have hown : s.vm.findClass RX2 = some m.cls := findClass_of_methodNamed B.named
  have hlocks := B.notSynchronized
  subst hsz
  have hD := hD0.self (sz := s.heap.size)
  generalize hAe : va_A (zzK ad cy (ad 11) (ad 18) iK lK aK iB lB aB iC aC) s.heap.size = A at hD ⊢
  have hA : ∀ q : Nat, s.heap.size ≤ q → A q := fun q h => by rw [← hAe]; exact Or.inr h
  have hS : va_S A s.heap s.heap [] := va_S.rf
  generalize hWQ : (zzK ad cy (ad 11) (ad 18) iK lK aK iB lB aB iC aC) = WQ
  generalize hQQ : MQ below (cQl (dC, dI) cy q WQ A) args s 0 0 A = QQ
  have hl := lv_entry ([.ref (ad 0), .int a1, .int a2] : List Value) (n := 5) (Nat.le_of_ble_eq_true rfl)
  have hfr := lg_entry_eq m ([.ref (ad 0), .int a1, .int a2] : List Value) 5
  rw [← hav] at hfr
  rw [hfr]
  clear hfr hav
  generalize (lg_sl ([.ref (ad 0), .int a1, .int a2] : List Value) ++ List.replicate (5 - (lg_sl ([.ref (ad 0), .int a1, .int a2] : List Value)).length) Slot.unset).toArray = ls at hl ⊢
  have hl : lv_has ls 5 [(0, .ref (ad 0)), (1, .int a1), (2, .int a2)] := hl
  have kf54 := hts _ (List.mem_cons_of_mem _ m_fl_X2_54)
  have ki2 := (fun w h => List.mem_cons_of_mem _ (i_X2 w h) : ∀ w ∈ u_ws RX2 TX2 15, w ∈ wsX2_truthWord)
  have kc88 := hts _ (List.mem_cons_of_mem _ m_kl_X2_88)
  refine (?_ : ∀ (H : Heap) (locs : List Loc), va_P (dC, dI) vwCl (zzK ad cy (ad 11) (ad 18) iK lK aK iB lB aB iC aC) H → va_D A (zzK ad cy (ad 11) (ad 18) iK lK aK iB lB aB iC aC) → va_S A s.heap H locs → W p l e ({ frames := 1, cells := 0, slots := 0, locals := 22 } : Room) s m args below meth c H locs 0 0 QQ (F0 m 0 ls [])) s.heap [] hP hD hS
  clear hP hD hS
  intro H locs hP hD hS
  unfold f_K_truthWord at h
  refine lv_aload_n hx hb dX2_truthWord_0 rfl (lv_at hl 0 rfl) ?_
  refine va_get (D := (dC, dI)) (ci := 2) (v := .ref (ad 18)) (C := RX2) (T := TX2) (N := 15) hx hb hts ki2 hown hK hP 0 rfl rfl 1 (by decide) kf54 (fun _ h9 => h9) rfl dX2_truthWord_1 ?_
  refine lv_iload_n hx hb dX2_truthWord_4 rfl (lv_at hl 1 rfl) ?_
  obtain ⟨q5, e5, h⟩ := g_b h
  refine callVi (cc := cX2_truthWord) (ws' := zzK ad cy (ad 11) (ad 18) iK lK aK iB lB aB iC aC) (As := [.int a1]) (rest := []) ⟨hx, hb, hml, hown, hts⟩ (c_C_leftOf l dC dI cy (fun i => ad (i + 18)) H.size a1 iC aC q5 e5) (cwV 1 hts (goodV m_ml_X2_117 m_im_X1_leftOf m_se_X1_leftOf m_in_X1 m_cd_X1_leftOf) rfl rfl rfl (by decide +kernel) ⟨Nat.le_of_ble_eq_true rfl, Nat.le_of_ble_eq_true rfl⟩) hN hK hP hD hS hA [18, 19, 20, 21, 22, 23, 24, 25, 26] [none, none, none, none, none, none, none, none, none, none, none, none, none, none, none, none, none, none, some 0, some 1, some 2, some 3, some 4, some 5, some 6, some 7, some 8] rfl rfl rfl rfl rfl rfl 18 rfl rfl rfl hl.1 rfl (Nat.le_of_ble_eq_true rfl) dX2_truthWord_5 ⟨Nat.zero_le _, Nat.zero_le _⟩ (fun H locs hP hD hS => ?_)
  refine lv_istore_n (lv' := [(3, .int q5), (0, .ref (ad 0)), (1, .int a1), (2, .int a2)]) hx hb dX2_truthWord_8 rfl hl (by decide) rfl (fun ls hl => ?_)
  refine lv_aload_n hx hb dX2_truthWord_9 rfl (lv_at hl 1 rfl) ?_
  refine va_get (D := (dC, dI)) (ci := 2) (v := .ref (ad 18)) (C := RX2) (T := TX2) (N := 15) hx hb hts ki2 hown hK hP 0 rfl rfl 1 (by decide) kf54 (fun _ h9 => h9) rfl dX2_truthWord_10 ?_
  refine lv_iload_n hx hb dX2_truthWord_13 rfl (lv_at hl 2 rfl) ?_
  obtain ⟨q14, e14, h⟩ := g_b h
  refine callVi (cc := cX2_truthWord) (ws' := zzK ad cy (ad 11) (ad 18) iK lK aK iB lB aB iC aC) (As := [.int a1]) (rest := []) ⟨hx, hb, hml, hown, hts⟩ (c_C_rightOf l dC dI cy (fun i => ad (i + 18)) H.size a1 iC aC q14 e14) (cwV 1 hts (goodV m_ml_X2_120 m_im_X1_rightOf m_se_X1_rightOf m_in_X1 m_cd_X1_rightOf) rfl rfl rfl (by decide +kernel) ⟨Nat.le_of_ble_eq_true rfl, Nat.le_of_ble_eq_true rfl⟩) hN hK hP hD hS hA [18, 19, 20, 21, 22, 23, 24, 25, 26] [none, none, none, none, none, none, none, none, none, none, none, none, none, none, none, none, none, none, some 0, some 1, some 2, some 3, some 4, some 5, some 6, some 7, some 8] rfl rfl rfl rfl rfl rfl 18 rfl rfl rfl hl.1 rfl (Nat.le_of_ble_eq_true rfl) dX2_truthWord_14 ⟨Nat.zero_le _, Nat.zero_le _⟩ (fun H locs hP hD hS => ?_)
  refine lv_istore (lv' := [(4, .int q14), (3, .int q5), (0, .ref (ad 0)), (1, .int a1), (2, .int a2)]) hx hb dX2_truthWord_17 hl (by decide) rfl (fun ls hl => ?_)
  refine lv_aload_n hx hb dX2_truthWord_19 rfl (lv_at hl 2 rfl) ?_
  refine va_get (D := (dC, dI)) (ci := 2) (v := .ref (ad 18)) (C := RX2) (T := TX2) (N := 15) hx hb hts ki2 hown hK hP 0 rfl rfl 1 (by decide) kf54 (fun _ h9 => h9) rfl dX2_truthWord_20 ?_
  refine lv_iload_n hx hb dX2_truthWord_23 rfl (lv_at hl 3 rfl) ?_
  obtain ⟨q24, e24, h⟩ := g_b h
  refine callVi (cc := cX2_truthWord) (ws' := zzK ad cy (ad 11) (ad 18) iK lK aK iB lB aB iC aC) (As := [.int a1]) (rest := []) ⟨hx, hb, hml, hown, hts⟩ (c_C_sortOf l dC dI cy (fun i => ad (i + 18)) H.size a1 iC aC q24 e24) (cwV 1 hts (goodV m_ml_X2_123 m_im_X1_sortOf m_se_X1_sortOf m_in_X1 m_cd_X1_sortOf) rfl rfl rfl (by decide +kernel) ⟨Nat.le_of_ble_eq_true rfl, Nat.le_of_ble_eq_true rfl⟩) hN hK hP hD hS hA [18, 19, 20, 21, 22, 23, 24, 25, 26] [none, none, none, none, none, none, none, none, none, none, none, none, none, none, none, none, none, none, some 0, some 1, some 2, some 3, some 4, some 5, some 6, some 7, some 8] rfl rfl rfl rfl rfl rfl 18 rfl rfl rfl hl.1 rfl (Nat.le_of_ble_eq_true rfl) dX2_truthWord_24 ⟨Nat.zero_le _, Nat.zero_le _⟩ (fun H locs hP hD hS => ?_)
  rcases Decidable.em (q24 = (1 : Int32)) with c0 | c0
  · have h := g_t h c0
    refine lv_tableIn (off := 41) (tgt := 68) hx hb dX2_truthWord_27 (by rw [c0]; decide) (by rw [c0]; decide) (by rw [c0]; rfl) (by decide) ?_
    refine lv_ldc2 (v := (-1)) hx hb hown kc88 dX2_truthWord_68 ?_
    have h' := Option.some.inj h
    rw [← hQQ]
    exact W.lret (v := (-1 : Int64)) hx hb hr (fun t ht hW => ⟨⟨(-1 : Int64), (), rfl, by rw [← h'], by rw [← hWQ, ht]; exact hP, va_K.moved hW.alike hK⟩, hS.F ht⟩) hS.2.2 dX2_truthWord_71
  · have h := g_f h c0
    rcases Decidable.em (q24 = (2 : Int32)) with c1 | c1
    · have h := g_t h c1
      refine lv_tableIn (off := 45) (tgt := 72) hx hb dX2_truthWord_27 (by rw [c1]; decide) (by rw [c1]; decide) (by rw [c1]; rfl) (by decide) ?_
      refine lv_lconst (v := 0) hx hb dX2_truthWord_72 (by decide) ?_
      have h' := Option.some.inj h
      rw [← hQQ]
      exact W.lret (v := (0 : Int64)) hx hb hr (fun t ht hW => ⟨⟨(0 : Int64), (), rfl, by rw [← h'], by rw [← hWQ, ht]; exact hP, va_K.moved hW.alike hK⟩, hS.F ht⟩) hS.2.2 dX2_truthWord_73
    · have h := g_f h c1
      rcases Decidable.em (q24 = (3 : Int32)) with c2 | c2
      · have h := g_t h c2
        refine lv_tableIn (off := 47) (tgt := 74) hx hb dX2_truthWord_27 (by rw [c2]; decide) (by rw [c2]; decide) (by rw [c2]; rfl) (by decide) ?_
        refine lv_aload_n hx hb dX2_truthWord_74 rfl (lv_at hl 2 rfl) ?_
        refine lv_iload_n hx hb dX2_truthWord_75 rfl (lv_at hl 1 rfl) ?_
        refine lv_iload_n hx hb dX2_truthWord_76 rfl (lv_at hl 4 rfl) ?_
        obtain ⟨q77, e77, h⟩ := g_b h
        refine callVls (cc := cX2_truthWord) (w1 := zzK ad cy (ad 11) (ad 18) iK lK aK iB lB aB iC aC) (As := [.int q5, .int a2]) (rest := []) ⟨hx, hb, hml, hown, hts⟩ (c_K_truthOf l dC dI cy ad H.size q5 a2 iK lK aK iB lB aB iC aC q77 e77) (cwV 2 hts (goodV m_ml_X2_81 m_im_X2_truthOf m_se_X2_truthOf m_in_X2 m_cd_X2_truthOf) rfl rfl rfl (by decide +kernel) ⟨Nat.le_of_ble_eq_true rfl, Nat.le_of_ble_eq_true rfl⟩) hN hK hP hD hS hA rfl 0 rfl rfl rfl hl.1 rfl (Nat.le_of_ble_eq_true rfl) dX2_truthWord_77 ⟨Nat.zero_le _, Nat.zero_le _⟩ (fun H locs hP hD hS => ?_)
        refine lv_ldc2 (v := (-1)) hx hb hown kc88 dX2_truthWord_80 ?_
        refine lv_lxor hx hb dX2_truthWord_83 ?_
        have h' := Option.some.inj h
        rw [← hQQ]
        exact W.lret (v := (q77 ^^^ (-1 : Int64))) hx hb hr (fun t ht hW => ⟨⟨(q77 ^^^ (-1 : Int64)), (), rfl, by rw [← h'], by rw [← hWQ, ht]; exact hP, va_K.moved hW.alike hK⟩, hS.F ht⟩) hS.2.2 dX2_truthWord_84
      · have h := g_f h c2
        rcases Decidable.em (q24 = (4 : Int32)) with c3 | c3
        · have h := g_t h c3
          refine lv_tableIn (off := 105) (tgt := 132) hx hb dX2_truthWord_27 (by rw [c3]; decide) (by rw [c3]; decide) (by rw [c3]; rfl) (by decide) ?_
          refine lv_aload_n hx hb dX2_truthWord_132 rfl (lv_at hl 2 rfl) ?_
          refine va_get (D := (dC, dI)) (ci := 2) (v := .ref (ad 18)) (C := RX2) (T := TX2) (N := 15) hx hb hts ki2 hown hK hP 0 rfl rfl 1 (by decide) kf54 (fun _ h9 => h9) rfl dX2_truthWord_133 ?_
          refine lv_iload_n hx hb dX2_truthWord_136 rfl (lv_at hl 3 rfl) ?_
          obtain ⟨q137, e137, h⟩ := g_b h
          refine callVi (cc := cX2_truthWord) (ws' := zzK ad cy (ad 11) (ad 18) iK lK aK iB lB aB iC aC) (As := [.int a1]) (rest := []) ⟨hx, hb, hml, hown, hts⟩ (c_C_atomOf l dC dI cy (fun i => ad (i + 18)) H.size a1 iC aC q137 e137) (cwV 1 hts (goodV m_ml_X2_126 m_im_X1_atomOf m_se_X1_atomOf m_in_X1 m_cd_X1_atomOf) rfl rfl rfl (by decide +kernel) ⟨Nat.le_of_ble_eq_true rfl, Nat.le_of_ble_eq_true rfl⟩) hN hK hP hD hS hA [18, 19, 20, 21, 22, 23, 24, 25, 26] [none, none, none, none, none, none, none, none, none, none, none, none, none, none, none, none, none, none, some 0, some 1, some 2, some 3, some 4, some 5, some 6, some 7, some 8] rfl rfl rfl rfl rfl rfl 18 rfl rfl rfl hl.1 rfl (Nat.le_of_ble_eq_true rfl) dX2_truthWord_137 ⟨Nat.zero_le _, Nat.zero_le _⟩ (fun H locs hP hD hS => ?_)
          refine lv_iload_n hx hb dX2_truthWord_140 rfl (lv_at hl 4 rfl) ?_
          obtain ⟨q141, e141, h⟩ := g_b h
          refine callSl (cc := cX2_truthWord) (ws' := zzK ad cy (ad 11) (ad 18) iK lK aK iB lB aB iC aC) (As := [.int q137, .int a2]) (rest := []) ⟨hx, hb, hml, hown, hts⟩ (c_K_bitPattern l dC dI cy ad H.size q137 a2 q141 e141) (va_cwS 2 hts (goodS m_ml_X2_129 m_st_X2_bitPattern m_in_X2 m_cd_X2_bitPattern) rfl rfl rfl (by decide +kernel) ⟨Nat.le_of_ble_eq_true rfl, Nat.le_of_ble_eq_true rfl⟩) hN hK hP hD hS hA [] [none, none, none, none, none, none, none, none, none, none, none, none, none, none, none, none, none, none, none, none, none, none, none, none, none, none, none] rfl rfl rfl rfl rfl rfl rfl hl.1 rfl (Nat.le_of_ble_eq_true rfl) dX2_truthWord_141 ⟨Nat.zero_le _, Nat.zero_le _⟩ (fun H locs hP hD hS => ?_)
          have h' := Option.some.inj h
          rw [← hQQ]
          exact W.lret (v := q141) hx hb hr (fun t ht hW => ⟨⟨q141, (), rfl, by rw [← h'], by rw [← hWQ, ht]; exact hP, va_K.moved hW.alike hK⟩, hS.F ht⟩) hS.2.2 dX2_truthWord_144
        · have h := g_f h c3
          rcases Decidable.em (q24 = (5 : Int32)) with c4 | c4
          · have h := g_t h c4
            refine lv_tableIn (off := 88) (tgt := 115) hx hb dX2_truthWord_27 (by rw [c4]; decide) (by rw [c4]; decide) (by rw [c4]; rfl) (by decide) ?_
            refine lv_aload_n hx hb dX2_truthWord_115 rfl (lv_at hl 2 rfl) ?_
            refine va_get (D := (dC, dI)) (ci := 2) (v := .ref (ad 18)) (C := RX2) (T := TX2) (N := 15) hx hb hts ki2 hown hK hP 0 rfl rfl 1 (by decide) kf54 (fun _ h9 => h9) rfl dX2_truthWord_116 ?_
            refine lv_iload_n hx hb dX2_truthWord_119 rfl (lv_at hl 3 rfl) ?_
            obtain ⟨q120, e120, h⟩ := g_b h
            refine callVi (cc := cX2_truthWord) (ws' := zzK ad cy (ad 11) (ad 18) iK lK aK iB lB aB iC aC) (As := [.int a1]) (rest := []) ⟨hx, hb, hml, hown, hts⟩ (c_C_atomOf l dC dI cy (fun i => ad (i + 18)) H.size a1 iC aC q120 e120) (cwV 1 hts (goodV m_ml_X2_126 m_im_X1_atomOf m_se_X1_atomOf m_in_X1 m_cd_X1_atomOf) rfl rfl rfl (by decide +kernel) ⟨Nat.le_of_ble_eq_true rfl, Nat.le_of_ble_eq_true rfl⟩) hN hK hP hD hS hA [18, 19, 20, 21, 22, 23, 24, 25, 26] [none, none, none, none, none, none, none, none, none, none, none, none, none, none, none, none, none, none, some 0, some 1, some 2, some 3, some 4, some 5, some 6, some 7, some 8] rfl rfl rfl rfl rfl rfl 18 rfl rfl rfl hl.1 rfl (Nat.le_of_ble_eq_true rfl) dX2_truthWord_120 ⟨Nat.zero_le _, Nat.zero_le _⟩ (fun H locs hP hD hS => ?_)
            refine lv_iload_n hx hb dX2_truthWord_123 rfl (lv_at hl 4 rfl) ?_
            obtain ⟨q124, e124, h⟩ := g_b h
            refine callSl (cc := cX2_truthWord) (ws' := zzK ad cy (ad 11) (ad 18) iK lK aK iB lB aB iC aC) (As := [.int q120, .int a2]) (rest := []) ⟨hx, hb, hml, hown, hts⟩ (c_K_bitPattern l dC dI cy ad H.size q120 a2 q124 e124) (va_cwS 2 hts (goodS m_ml_X2_129 m_st_X2_bitPattern m_in_X2 m_cd_X2_bitPattern) rfl rfl rfl (by decide +kernel) ⟨Nat.le_of_ble_eq_true rfl, Nat.le_of_ble_eq_true rfl⟩) hN hK hP hD hS hA [] [none, none, none, none, none, none, none, none, none, none, none, none, none, none, none, none, none, none, none, none, none, none, none, none, none, none, none] rfl rfl rfl rfl rfl rfl rfl hl.1 rfl (Nat.le_of_ble_eq_true rfl) dX2_truthWord_124 ⟨Nat.zero_le _, Nat.zero_le _⟩ (fun H locs hP hD hS => ?_)
            refine lv_ldc2 (v := (-1)) hx hb hown kc88 dX2_truthWord_127 ?_
            refine lv_lxor hx hb dX2_truthWord_130 ?_
            have h' := Option.some.inj h
            rw [← hQQ]
            exact W.lret (v := (q124 ^^^ (-1 : Int64))) hx hb hr (fun t ht hW => ⟨⟨(q124 ^^^ (-1 : Int64)), (), rfl, by rw [← h'], by rw [← hWQ, ht]; exact hP, va_K.moved hW.alike hK⟩, hS.F ht⟩) hS.2.2 dX2_truthWord_131
          · have h := g_f h c4
            rcases Decidable.em (q24 = (6 : Int32)) with c5 | c5
            · have h := g_t h c5
              refine lv_tableIn (off := 58) (tgt := 85) hx hb dX2_truthWord_27 (by rw [c5]; decide) (by rw [c5]; decide) (by rw [c5]; rfl) (by decide) ?_
              refine lv_aload_n hx hb dX2_truthWord_85 rfl (lv_at hl 2 rfl) ?_
              refine lv_iload_n hx hb dX2_truthWord_86 rfl (lv_at hl 1 rfl) ?_
              refine lv_iload_n hx hb dX2_truthWord_87 rfl (lv_at hl 4 rfl) ?_
              obtain ⟨q88, e88, h⟩ := g_b h
              refine callVls (cc := cX2_truthWord) (w1 := zzK ad cy (ad 11) (ad 18) iK lK aK iB lB aB iC aC) (As := [.int q5, .int a2]) (rest := []) ⟨hx, hb, hml, hown, hts⟩ (c_K_truthOf l dC dI cy ad H.size q5 a2 iK lK aK iB lB aB iC aC q88 e88) (cwV 2 hts (goodV m_ml_X2_81 m_im_X2_truthOf m_se_X2_truthOf m_in_X2 m_cd_X2_truthOf) rfl rfl rfl (by decide +kernel) ⟨Nat.le_of_ble_eq_true rfl, Nat.le_of_ble_eq_true rfl⟩) hN hK hP hD hS hA rfl 0 rfl rfl rfl hl.1 rfl (Nat.le_of_ble_eq_true rfl) dX2_truthWord_88 ⟨Nat.zero_le _, Nat.zero_le _⟩ (fun H locs hP hD hS => ?_)
              refine lv_aload_n hx hb dX2_truthWord_91 rfl (lv_at hl 2 rfl) ?_
              refine lv_iload hx hb dX2_truthWord_92 (lv_at hl 0 rfl) ?_
              refine lv_iload_n hx hb dX2_truthWord_94 rfl (lv_at hl 4 rfl) ?_
              obtain ⟨q95, e95, h⟩ := g_b h
              refine callVls (cc := cX2_truthWord) (w1 := zzK ad cy (ad 11) (ad 18) iK lK aK iB lB aB iC aC) (As := [.int q14, .int a2]) (rest := [.long q88]) ⟨hx, hb, hml, hown, hts⟩ (c_K_truthOf l dC dI cy ad H.size q14 a2 iK lK aK iB lB aB iC aC q95 e95) (cwV 2 hts (goodV m_ml_X2_81 m_im_X2_truthOf m_se_X2_truthOf m_in_X2 m_cd_X2_truthOf) rfl rfl rfl (by decide +kernel) ⟨Nat.le_of_ble_eq_true rfl, Nat.le_of_ble_eq_true rfl⟩) hN hK hP hD hS hA rfl 0 rfl rfl rfl hl.1 rfl (Nat.le_of_ble_eq_true rfl) dX2_truthWord_95 ⟨Nat.zero_le _, Nat.zero_le _⟩ (fun H locs hP hD hS => ?_)
              refine lv_land hx hb dX2_truthWord_98 ?_
              have h' := Option.some.inj h
              rw [← hQQ]
              exact W.lret (v := (q88 &&& q95)) hx hb hr (fun t ht hW => ⟨⟨(q88 &&& q95), (), rfl, by rw [← h'], by rw [← hWQ, ht]; exact hP, va_K.moved hW.alike hK⟩, hS.F ht⟩) hS.2.2 dX2_truthWord_99
            · have h := g_f h c5
              rcases Decidable.em (q24 = (7 : Int32)) with c6 | c6
              · have h := g_t h c6
                refine lv_tableIn (off := 73) (tgt := 100) hx hb dX2_truthWord_27 (by rw [c6]; decide) (by rw [c6]; decide) (by rw [c6]; rfl) (by decide) ?_
                refine lv_aload_n hx hb dX2_truthWord_100 rfl (lv_at hl 2 rfl) ?_
                refine lv_iload_n hx hb dX2_truthWord_101 rfl (lv_at hl 1 rfl) ?_
                refine lv_iload_n hx hb dX2_truthWord_102 rfl (lv_at hl 4 rfl) ?_
                obtain ⟨q103, e103, h⟩ := g_b h
                refine callVls (cc := cX2_truthWord) (w1 := zzK ad cy (ad 11) (ad 18) iK lK aK iB lB aB iC aC) (As := [.int q5, .int a2]) (rest := []) ⟨hx, hb, hml, hown, hts⟩ (c_K_truthOf l dC dI cy ad H.size q5 a2 iK lK aK iB lB aB iC aC q103 e103) (cwV 2 hts (goodV m_ml_X2_81 m_im_X2_truthOf m_se_X2_truthOf m_in_X2 m_cd_X2_truthOf) rfl rfl rfl (by decide +kernel) ⟨Nat.le_of_ble_eq_true rfl, Nat.le_of_ble_eq_true rfl⟩) hN hK hP hD hS hA rfl 0 rfl rfl rfl hl.1 rfl (Nat.le_of_ble_eq_true rfl) dX2_truthWord_103 ⟨Nat.zero_le _, Nat.zero_le _⟩ (fun H locs hP hD hS => ?_)
                refine lv_aload_n hx hb dX2_truthWord_106 rfl (lv_at hl 2 rfl) ?_
                refine lv_iload hx hb dX2_truthWord_107 (lv_at hl 0 rfl) ?_
                refine lv_iload_n hx hb dX2_truthWord_109 rfl (lv_at hl 4 rfl) ?_
                obtain ⟨q110, e110, h⟩ := g_b h
                refine callVls (cc := cX2_truthWord) (w1 := zzK ad cy (ad 11) (ad 18) iK lK aK iB lB aB iC aC) (As := [.int q14, .int a2]) (rest := [.long q103]) ⟨hx, hb, hml, hown, hts⟩ (c_K_truthOf l dC dI cy ad H.size q14 a2 iK lK aK iB lB aB iC aC q110 e110) (cwV 2 hts (goodV m_ml_X2_81 m_im_X2_truthOf m_se_X2_truthOf m_in_X2 m_cd_X2_truthOf) rfl rfl rfl (by decide +kernel) ⟨Nat.le_of_ble_eq_true rfl, Nat.le_of_ble_eq_true rfl⟩) hN hK hP hD hS hA rfl 0 rfl rfl rfl hl.1 rfl (Nat.le_of_ble_eq_true rfl) dX2_truthWord_110 ⟨Nat.zero_le _, Nat.zero_le _⟩ (fun H locs hP hD hS => ?_)
                refine lv_lor hx hb dX2_truthWord_113 ?_
                have h' := Option.some.inj h
                rw [← hQQ]
                exact W.lret (v := (q103 ||| q110)) hx hb hr (fun t ht hW => ⟨⟨(q103 ||| q110), (), rfl, by rw [← h'], by rw [← hWQ, ht]; exact hP, va_K.moved hW.alike hK⟩, hS.F ht⟩) hS.2.2 dX2_truthWord_114
              · have h := g_f h c6
                refine lv_tableOut (tgt := 132) hx hb dX2_truthWord_27 (by have z0 := tne (n := 1) (by decide) c0; have z1 := tne (n := 2) (by decide) c1; have z2 := tne (n := 3) (by decide) c2; have z3 := tne (n := 4) (by decide) c3; have z4 := tne (n := 5) (by decide) c4; have z5 := tne (n := 6) (by decide) c5; have z6 := tne (n := 7) (by decide) c6; omega) (by decide) ?_
                refine lv_aload_n hx hb dX2_truthWord_132 rfl (lv_at hl 2 rfl) ?_
                refine va_get (D := (dC, dI)) (ci := 2) (v := .ref (ad 18)) (C := RX2) (T := TX2) (N := 15) hx hb hts ki2 hown hK hP 0 rfl rfl 1 (by decide) kf54 (fun _ h9 => h9) rfl dX2_truthWord_133 ?_
                refine lv_iload_n hx hb dX2_truthWord_136 rfl (lv_at hl 3 rfl) ?_
                obtain ⟨q137, e137, h⟩ := g_b h
                refine callVi (cc := cX2_truthWord) (ws' := zzK ad cy (ad 11) (ad 18) iK lK aK iB lB aB iC aC) (As := [.int a1]) (rest := []) ⟨hx, hb, hml, hown, hts⟩ (c_C_atomOf l dC dI cy (fun i => ad (i + 18)) H.size a1 iC aC q137 e137) (cwV 1 hts (goodV m_ml_X2_126 m_im_X1_atomOf m_se_X1_atomOf m_in_X1 m_cd_X1_atomOf) rfl rfl rfl (by decide +kernel) ⟨Nat.le_of_ble_eq_true rfl, Nat.le_of_ble_eq_true rfl⟩) hN hK hP hD hS hA [18, 19, 20, 21, 22, 23, 24, 25, 26] [none, none, none, none, none, none, none, none, none, none, none, none, none, none, none, none, none, none, some 0, some 1, some 2, some 3, some 4, some 5, some 6, some 7, some 8] rfl rfl rfl rfl rfl rfl 18 rfl rfl rfl hl.1 rfl (Nat.le_of_ble_eq_true rfl) dX2_truthWord_137 ⟨Nat.zero_le _, Nat.zero_le _⟩ (fun H locs hP hD hS => ?_)
                refine lv_iload_n hx hb dX2_truthWord_140 rfl (lv_at hl 4 rfl) ?_
                obtain ⟨q141, e141, h⟩ := g_b h
                refine callSl (cc := cX2_truthWord) (ws' := zzK ad cy (ad 11) (ad 18) iK lK aK iB lB aB iC aC) (As := [.int q137, .int a2]) (rest := []) ⟨hx, hb, hml, hown, hts⟩ (c_K_bitPattern l dC dI cy ad H.size q137 a2 q141 e141) (va_cwS 2 hts (goodS m_ml_X2_129 m_st_X2_bitPattern m_in_X2 m_cd_X2_bitPattern) rfl rfl rfl (by decide +kernel) ⟨Nat.le_of_ble_eq_true rfl, Nat.le_of_ble_eq_true rfl⟩) hN hK hP hD hS hA [] [none, none, none, none, none, none, none, none, none, none, none, none, none, none, none, none, none, none, none, none, none, none, none, none, none, none, none] rfl rfl rfl rfl rfl rfl rfl hl.1 rfl (Nat.le_of_ble_eq_true rfl) dX2_truthWord_141 ⟨Nat.zero_le _, Nat.zero_le _⟩ (fun H locs hP hD hS => ?_)
                have h' := Option.some.inj h
                rw [← hQQ]
                exact W.lret (v := q141) hx hb hr (fun t ht hW => ⟨⟨q141, (), rfl, by rw [← h'], by rw [← hWQ, ht]; exact hP, va_K.moved hW.alike hK⟩, hS.F ht⟩) hS.2.2 dX2_truthWord_144
