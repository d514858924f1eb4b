def f_X_count (N : Nat) (a1 : Int32) (iX5 : Int32) (iB1 : Int32) (iB3 : Int32) (iB5 : Int32) (iB9 : Int32) (iB11 : Int32) (iC9 : Int32) (iK14 : Int32) (lK8 : Nat → Int64) (lK9 : Nat → Int64) (iW1 : Int32) (iW4 : Int32) (iP1 : Int32) : Option Int32 := if a1 = (11 : Int32) then (some iP1) else (if iX5 = 0 then (some (-101 : Int32)) else (if a1 = (0 : Int32) then (some iB3) else (if a1 = (1 : Int32) then (some iB5) else (if a1 = (2 : Int32) then (some iB9) else (if a1 = (3 : Int32) then (some iB11) else (if a1 = (4 : Int32) then (some iB1) else (if a1 = (5 : Int32) then (some iC9) else (if a1 = (6 : Int32) then ((f_K_sizeOf N 8 lK8).bind fun q146 => (some q146)) else (if a1 = (7 : Int32) then ((f_K_sizeOf N 8 lK9).bind fun q161 => (some q161)) else (if a1 = (8 : Int32) then (some iK14) else (if a1 = (9 : Int32) then (some iW1) else (if a1 = (10 : Int32) then (some iW4) else (some (-103 : Int32))))))))))))))
set_option maxHeartbeats 8000000 in
set_option maxRecDepth 100000 in
theorem c_X_count (l : Launch) (dC : Nat → ClassId) (dI : Nat → Nat → Nat) (cy : Nat → ClassId) (ad : Nat → Nat) (sz : Nat) (rb : Nat) (rc : Nat) (pb : Nat) (N : Nat) (a1 : Int32) (iX : Nat → Int32) (iR : Nat → Int32) (iT : Nat → Int32) (wT : Int64) (tx : Nat → Int32) (iB : Nat → Int32) (lB : Nat → Nat → Int64) (aB : Nat → Nat → Int32) (iC : Nat → Int32) (aC : Nat → Nat → Int32) (iD : Nat → Int32) (lD : Nat → Nat → Int64) (aD : Nat → Nat → Int32) (iE : Nat → Int32) (aE : Nat → Nat → Int32) (iK : Nat → Int32) (lK : Nat → Nat → Int64) (aK : Nat → Nat → Int32) (iW : Nat → Int32) (aW : Nat → Nat → Int32) (iP : Nat → Int32) (aP : Nat → Nat → Int32) (q : Int32) (h : f_X_count N a1 (iX 5) (iB 1) (iB 3) (iB 5) (iB 9) (iB 11) (iC 9) (iK 14) (lK 8) (lK 9) (iW 1) (iW 4) (iP 1) = some q) : Met l yX7_count wsX7_count ({ frames := 2, cells := 0, slots := 0, locals := 48 } : Room) (cP (dC, dI) cy [.ref (ad 0), .int a1] (zzX ad cy rb rc (ad 4) (ad 11) pb (ad 4) (ad 20) iX iR iT wT tx iB lB aB iC aC iD lD aD iE aE iK lK aK iW aW iP aP) sz) (cQi (dC, dI) cy q (zzX ad cy rb rc (ad 4) (ad 11) pb (ad 4) (ad 20) iX iR iT wT tx iB lB aB iC aC iD lD aD iE aE iK lK aK iW aW iP aP) (va_A (zzX ad cy rb rc (ad 4) (ad 11) pb (ad 4) (ad 20) iX iR iT wT tx iB lB aB iC aC iD lD aD iE aE iK lK aK iW aW iP aP) sz)) 0 0 (va_A (zzX ad cy rb rc (ad 4) (ad 11) pb (ad 4) (ad 20) iX iR iT wT tx iB lB aB iC aC iD lD aD iE aE iK lK aK iW aW iP aP) sz) := by
  refine Met.ofW (cc := cX7_count) (maxL := 2) (ret := (some .int)) (by decide) rfl ?_
  intro p e s m args below meth c s₁ B hml hv
  obtain ⟨hav, hsz, hP, hK, hD0, hN⟩ := hv
  have hx := B.exec
  have hb := B.bytes
  have hr := B.returns
  have hts := atoms_spec (ws := wsX7_count) B.pre
  have hown : s.vm.findClass RX7 = some m.cls := findClass_of_methodNamed B.named
  have hlocks := B.notSynchronized
  subst hsz
  have hD := hD0.self (sz := s.heap.size)
  generalize hAe : va_A (zzX ad cy rb rc (ad 4) (ad 11) pb (ad 4) (ad 20) iX iR iT wT tx iB lB aB iC aC iD lD aD iE aE iK lK aK iW aW iP aP) s.heap.size = A at hD ⊢
  have hA : ∀ q : Nat, s.heap.size ≤ q → A q := fun q h => by rw [← hAe]; exact Or.inr h
  have hS : va_S A s.heap s.heap [] := va_S.rf
  generalize hWQ : (zzX ad cy rb rc (ad 4) (ad 11) pb (ad 4) (ad 20) iX iR iT wT tx iB lB aB iC aC iD lD aD iE aE iK lK aK iW aW iP aP) = WQ
  generalize hQQ : MQ below (cQi (dC, dI) cy q WQ A) args s 0 0 A = QQ
  have hl := lv_entry ([.ref (ad 0), .int a1] : List Value) (n := 2) (Nat.le_of_ble_eq_true rfl)
  have hfr := lg_entry_eq m ([.ref (ad 0), .int a1] : List Value) 2
  rw [← hav] at hfr
  rw [hfr]
  clear hfr hav
  generalize (lg_sl ([.ref (ad 0), .int a1] : List Value) ++ List.replicate (2 - (lg_sl ([.ref (ad 0), .int a1] : List Value)).length) Slot.unset).toArray = ls at hl ⊢
  have hl : lv_has ls 2 [(0, .ref (ad 0)), (1, .int a1)] := hl
  have kf70 := hts _ (List.mem_cons_of_mem _ m_fl_X7_70)
  have ki7 := (fun w h => List.mem_cons_of_mem _ (i_X7 w h) : ∀ w ∈ u_ws RX7 TX7 9, w ∈ wsX7_count)
  have kf16 := hts _ (List.mem_cons_of_mem _ m_fl_X7_16)
  have kf89 := hts _ (List.mem_cons_of_mem _ m_fl_X7_89)
  have ki0 := (fun w h => List.mem_cons_of_mem _ (i_X0 w h) : ∀ w ∈ u_ws RX0 TX0 15, w ∈ wsX7_count)
  have kf92 := hts _ (List.mem_cons_of_mem _ m_fl_X7_92)
  have kf95 := hts _ (List.mem_cons_of_mem _ m_fl_X7_95)
  have kf98 := hts _ (List.mem_cons_of_mem _ m_fl_X7_98)
  have kf80 := hts _ (List.mem_cons_of_mem _ m_fl_X7_80)
  have kf101 := hts _ (List.mem_cons_of_mem _ m_fl_X7_101)
  have kf105 := hts _ (List.mem_cons_of_mem _ m_fl_X7_105)
  have ki1 := (fun w h => List.mem_cons_of_mem _ (i_X1 w h) : ∀ w ∈ u_ws RX1 TX1 10, w ∈ wsX7_count)
  have kf37 := hts _ (List.mem_cons_of_mem _ m_fl_X7_37)
  have kf110 := hts _ (List.mem_cons_of_mem _ m_fl_X7_110)
  have ki2 := (fun w h => List.mem_cons_of_mem _ (i_X2 w h) : ∀ w ∈ u_ws RX2 TX2 15, w ∈ wsX7_count)
  have kf118 := hts _ (List.mem_cons_of_mem _ m_fl_X7_118)
  have kf121 := hts _ (List.mem_cons_of_mem _ m_fl_X7_121)
  have kf44 := hts _ (List.mem_cons_of_mem _ m_fl_X7_44)
  have kf124 := hts _ (List.mem_cons_of_mem _ m_fl_X7_124)
  have ki6 := (fun w h => List.mem_cons_of_mem _ (i_X6 w h) : ∀ w ∈ u_ws RX6 TX6 5, w ∈ wsX7_count)
  have kf127 := hts _ (List.mem_cons_of_mem _ m_fl_X7_127)
  have kf51 := hts _ (List.mem_cons_of_mem _ m_fl_X7_51)
  have kf86 := hts _ (List.mem_cons_of_mem _ m_fl_X7_86)
  have ki3 := (fun w h => List.mem_cons_of_mem _ (i_X3 w h) : ∀ w ∈ u_ws RX3 TX3 5, w ∈ wsX7_count)
  refine (?_ : ∀ (H : Heap) (locs : List Loc), va_P (dC, dI) vwCl (zzX ad cy rb rc (ad 4) (ad 11) pb (ad 4) (ad 20) iX iR iT wT tx iB lB aB iC aC iD lD aD iE aE iK lK aK iW aW iP aP) H → va_D A (zzX ad cy rb rc (ad 4) (ad 11) pb (ad 4) (ad 20) iX iR iT wT tx iB lB aB iC aC iD lD aD iE aE iK lK aK iW aW iP aP) → va_S A s.heap H locs → W p l e ({ frames := 2, cells := 0, slots := 0, locals := 48 } : Room) s m args below meth c H locs 0 0 QQ (F0 m 0 ls [])) s.heap [] hP hD hS
  clear hP hD hS
  intro H locs hP hD hS
  unfold f_X_count at h
  refine lv_iload_n hx hb dX7_count_0 rfl (lv_at hl 1 rfl) ?_
  refine lv_bipush (v := 11) hx hb dX7_count_1 (by decide) ?_
  refine lv_icmp_ne (tgt := 14) hx hb dX7_count_3 (by decide) (fun cz => ?_) (fun cz => ?_)
  · have h := g_f h cz
    refine lv_aload_n hx hb dX7_count_14 rfl (lv_at hl 0 rfl) ?_
    refine va_get (D := (dC, dI)) (ci := 7) (v := .int (iX 5)) (C := RX7) (T := TX7) (N := 9) hx hb hts ki7 hown hK hP 0 rfl rfl 5 (by decide) kf70 (fun _ h9 => h9) rfl dX7_count_15 ?_
    refine lv_if_ne (tgt := 24) hx hb dX7_count_18 (by decide) (fun cz => ?_) (fun cz => ?_)
    · have h := g_f h cz
      refine lv_iload_n hx hb dX7_count_24 rfl (lv_at hl 1 rfl) ?_
      rcases Decidable.em (a1 = (0 : Int32)) with c0 | c0
      · have h := g_t h c0
        refine lv_tableIn (off := 59) (tgt := 84) hx hb dX7_count_25 (by rw [c0]; decide) (by rw [c0]; decide) (by rw [c0]; rfl) (by decide) ?_
        refine lv_aload_n hx hb dX7_count_84 rfl (lv_at hl 0 rfl) ?_
        refine va_get (D := (dC, dI)) (ci := 7) (v := .ref (ad 4)) (C := RX7) (T := TX7) (N := 9) hx hb hts ki7 hown hK hP 0 rfl rfl 3 (by decide) kf16 (fun _ h9 => h9) rfl dX7_count_85 ?_
        refine va_get (D := (dC, dI)) (ci := 0) (v := .int (iB 3)) (C := RX0) (T := TX0) (N := 15) hx hb hts ki0 hown hK hP 4 rfl rfl 3 (by decide) kf89 (fun _ h9 => h9) rfl dX7_count_88 ?_
        have h' := Option.some.inj h
        rw [← hQQ]
        exact W.iret (v := (iB 3)) hx hb hr (fun t ht hW => ⟨⟨(iB 3), (), rfl, by rw [← h'], by rw [← hWQ, ht]; exact hP, va_K.moved hW.alike hK⟩, hS.F ht⟩) hS.2.2 dX7_count_91
      · have h := g_f h c0
        rcases Decidable.em (a1 = (1 : Int32)) with c1 | c1
        · have h := g_t h c1
          refine lv_tableIn (off := 67) (tgt := 92) hx hb dX7_count_25 (by rw [c1]; decide) (by rw [c1]; decide) (by rw [c1]; rfl) (by decide) ?_
          refine lv_aload_n hx hb dX7_count_92 rfl (lv_at hl 0 rfl) ?_
          refine va_get (D := (dC, dI)) (ci := 7) (v := .ref (ad 4)) (C := RX7) (T := TX7) (N := 9) hx hb hts ki7 hown hK hP 0 rfl rfl 3 (by decide) kf16 (fun _ h9 => h9) rfl dX7_count_93 ?_
          refine va_get (D := (dC, dI)) (ci := 0) (v := .int (iB 5)) (C := RX0) (T := TX0) (N := 15) hx hb hts ki0 hown hK hP 4 rfl rfl 5 (by decide) kf92 (fun _ h9 => h9) rfl dX7_count_96 ?_
          have h' := Option.some.inj h
          rw [← hQQ]
          exact W.iret (v := (iB 5)) hx hb hr (fun t ht hW => ⟨⟨(iB 5), (), rfl, by rw [← h'], by rw [← hWQ, ht]; exact hP, va_K.moved hW.alike hK⟩, hS.F ht⟩) hS.2.2 dX7_count_99
        · have h := g_f h c1
          rcases Decidable.em (a1 = (2 : Int32)) with c2 | c2
          · have h := g_t h c2
            refine lv_tableIn (off := 75) (tgt := 100) hx hb dX7_count_25 (by rw [c2]; decide) (by rw [c2]; decide) (by rw [c2]; rfl) (by decide) ?_
            refine lv_aload_n hx hb dX7_count_100 rfl (lv_at hl 0 rfl) ?_
            refine va_get (D := (dC, dI)) (ci := 7) (v := .ref (ad 4)) (C := RX7) (T := TX7) (N := 9) hx hb hts ki7 hown hK hP 0 rfl rfl 3 (by decide) kf16 (fun _ h9 => h9) rfl dX7_count_101 ?_
            refine va_get (D := (dC, dI)) (ci := 0) (v := .int (iB 9)) (C := RX0) (T := TX0) (N := 15) hx hb hts ki0 hown hK hP 4 rfl rfl 9 (by decide) kf95 (fun _ h9 => h9) rfl dX7_count_104 ?_
            have h' := Option.some.inj h
            rw [← hQQ]
            exact W.iret (v := (iB 9)) hx hb hr (fun t ht hW => ⟨⟨(iB 9), (), rfl, by rw [← h'], by rw [← hWQ, ht]; exact hP, va_K.moved hW.alike hK⟩, hS.F ht⟩) hS.2.2 dX7_count_107
          · have h := g_f h c2
            rcases Decidable.em (a1 = (3 : Int32)) with c3 | c3
            · have h := g_t h c3
              refine lv_tableIn (off := 83) (tgt := 108) hx hb dX7_count_25 (by rw [c3]; decide) (by rw [c3]; decide) (by rw [c3]; rfl) (by decide) ?_
              refine lv_aload_n hx hb dX7_count_108 rfl (lv_at hl 0 rfl) ?_
              refine va_get (D := (dC, dI)) (ci := 7) (v := .ref (ad 4)) (C := RX7) (T := TX7) (N := 9) hx hb hts ki7 hown hK hP 0 rfl rfl 3 (by decide) kf16 (fun _ h9 => h9) rfl dX7_count_109 ?_
              refine va_get (D := (dC, dI)) (ci := 0) (v := .int (iB 11)) (C := RX0) (T := TX0) (N := 15) hx hb hts ki0 hown hK hP 4 rfl rfl 11 (by decide) kf98 (fun _ h9 => h9) rfl dX7_count_112 ?_
              have h' := Option.some.inj h
              rw [← hQQ]
              exact W.iret (v := (iB 11)) hx hb hr (fun t ht hW => ⟨⟨(iB 11), (), rfl, by rw [← h'], by rw [← hWQ, ht]; exact hP, va_K.moved hW.alike hK⟩, hS.F ht⟩) hS.2.2 dX7_count_115
            · have h := g_f h c3
              rcases Decidable.em (a1 = (4 : Int32)) with c4 | c4
              · have h := g_t h c4
                refine lv_tableIn (off := 91) (tgt := 116) hx hb dX7_count_25 (by rw [c4]; decide) (by rw [c4]; decide) (by rw [c4]; rfl) (by decide) ?_
                refine lv_aload_n hx hb dX7_count_116 rfl (lv_at hl 0 rfl) ?_
                refine va_get (D := (dC, dI)) (ci := 7) (v := .ref (ad 4)) (C := RX7) (T := TX7) (N := 9) hx hb hts ki7 hown hK hP 0 rfl rfl 3 (by decide) kf16 (fun _ h9 => h9) rfl dX7_count_117 ?_
                refine va_get (D := (dC, dI)) (ci := 0) (v := .int (iB 1)) (C := RX0) (T := TX0) (N := 15) hx hb hts ki0 hown hK hP 4 rfl rfl 1 (by decide) kf80 (fun _ h9 => h9) rfl dX7_count_120 ?_
                have h' := Option.some.inj h
                rw [← hQQ]
                exact W.iret (v := (iB 1)) hx hb hr (fun t ht hW => ⟨⟨(iB 1), (), rfl, by rw [← h'], by rw [← hWQ, ht]; exact hP, va_K.moved hW.alike hK⟩, hS.F ht⟩) hS.2.2 dX7_count_123
              · have h := g_f h c4
                rcases Decidable.em (a1 = (5 : Int32)) with c5 | c5
                · have h := g_t h c5
                  refine lv_tableIn (off := 99) (tgt := 124) hx hb dX7_count_25 (by rw [c5]; decide) (by rw [c5]; decide) (by rw [c5]; rfl) (by decide) ?_
                  refine lv_aload_n hx hb dX7_count_124 rfl (lv_at hl 0 rfl) ?_
                  refine va_get (D := (dC, dI)) (ci := 7) (v := .ref (ad 4)) (C := RX7) (T := TX7) (N := 9) hx hb hts ki7 hown hK hP 0 rfl rfl 3 (by decide) kf16 (fun _ h9 => h9) rfl dX7_count_125 ?_
                  refine va_get (D := (dC, dI)) (ci := 0) (v := .ref (ad 11)) (C := RX0) (T := TX0) (N := 15) hx hb hts ki0 hown hK hP 4 rfl rfl 0 (by decide) kf101 (fun _ h9 => h9) rfl dX7_count_128 ?_
                  refine va_get (D := (dC, dI)) (ci := 1) (v := .int (iC 9)) (C := RX1) (T := TX1) (N := 10) hx hb hts ki1 hown hK hP 11 rfl rfl 9 (by decide) kf105 (fun _ h9 => h9) rfl dX7_count_131 ?_
                  have h' := Option.some.inj h
                  rw [← hQQ]
                  exact W.iret (v := (iC 9)) hx hb hr (fun t ht hW => ⟨⟨(iC 9), (), rfl, by rw [← h'], by rw [← hWQ, ht]; exact hP, va_K.moved hW.alike hK⟩, hS.F ht⟩) hS.2.2 dX7_count_134
                · have h := g_f h c5
                  rcases Decidable.em (a1 = (6 : Int32)) with c6 | c6
                  · have h := g_t h c6
                    refine lv_tableIn (off := 110) (tgt := 135) hx hb dX7_count_25 (by rw [c6]; decide) (by rw [c6]; decide) (by rw [c6]; rfl) (by decide) ?_
                    refine lv_aload_n hx hb dX7_count_135 rfl (lv_at hl 0 rfl) ?_
                    refine va_get (D := (dC, dI)) (ci := 7) (v := .ref (ad 36)) (C := RX7) (T := TX7) (N := 9) hx hb hts ki7 hown hK hP 0 rfl rfl 6 (by decide) kf37 (fun _ h9 => h9) rfl dX7_count_136 ?_
                    refine lv_aload_n hx hb dX7_count_139 rfl (lv_at hl 0 rfl) ?_
                    refine va_get (D := (dC, dI)) (ci := 7) (v := .ref (ad 36)) (C := RX7) (T := TX7) (N := 9) hx hb hts ki7 hown hK hP 0 rfl rfl 6 (by decide) kf37 (fun _ h9 => h9) rfl dX7_count_140 ?_
                    refine va_get (D := (dC, dI)) (ci := 2) (v := .ref (ad 41)) (C := RX2) (T := TX2) (N := 15) hx hb hts ki2 hown hK hP 36 rfl rfl 8 (by decide) kf110 (fun _ h9 => h9) rfl dX7_count_143 ?_
                    obtain ⟨q146, e146, h⟩ := g_b h
                    refine callVi (cc := cX7_count) (ws' := zzX ad cy rb rc (ad 4) (ad 11) pb (ad 4) (ad 20) iX iR iT wT tx iB lB aB iC aC iD lD aD iE aE iK lK aK iW aW iP aP) (As := [.ref (ad 41)]) (rest := []) ⟨hx, hb, hml, hown, hts⟩ (c_K_sizeOf l dC dI cy (fun i => ad (i + 41)) H.size (ad 36) N 8 (lK 8) q146 e146) (cwV 1 hts (goodV m_ml_X7_114 m_im_X2_sizeOf m_se_X2_sizeOf m_in_X2 m_cd_X2_sizeOf) rfl rfl rfl (by decide +kernel) ⟨Nat.le_of_ble_eq_true rfl, Nat.le_of_ble_eq_true rfl⟩) hN hK hP hD hS hA [41] [none, none, none, none, none, none, none, none, none, none, none, none, none, none, none, none, none, none, none, none, none, none, none, none, none, none, none, none, none, none, none, none, none, none, none, none, none, none, none, none, none, some 0, none, none, none, none, none, none, none, none, none, none, none, none] rfl rfl rfl rfl rfl rfl 36 rfl rfl rfl hl.1 rfl (Nat.le_of_ble_eq_true rfl) dX7_count_146 ⟨Nat.zero_le _, Nat.zero_le _⟩ (fun H locs hP hD hS => ?_)
                    have h' := Option.some.inj h
                    rw [← hQQ]
                    exact W.iret (v := q146) hx hb hr (fun t ht hW => ⟨⟨q146, (), rfl, by rw [← h'], by rw [← hWQ, ht]; exact hP, va_K.moved hW.alike hK⟩, hS.F ht⟩) hS.2.2 dX7_count_149
                  · have h := g_f h c6
                    rcases Decidable.em (a1 = (7 : Int32)) with c7 | c7
                    · have h := g_t h c7
                      refine lv_tableIn (off := 125) (tgt := 150) hx hb dX7_count_25 (by rw [c7]; decide) (by rw [c7]; decide) (by rw [c7]; rfl) (by decide) ?_
                      refine lv_aload_n hx hb dX7_count_150 rfl (lv_at hl 0 rfl) ?_
                      refine va_get (D := (dC, dI)) (ci := 7) (v := .ref (ad 36)) (C := RX7) (T := TX7) (N := 9) hx hb hts ki7 hown hK hP 0 rfl rfl 6 (by decide) kf37 (fun _ h9 => h9) rfl dX7_count_151 ?_
                      refine lv_aload_n hx hb dX7_count_154 rfl (lv_at hl 0 rfl) ?_
                      refine va_get (D := (dC, dI)) (ci := 7) (v := .ref (ad 36)) (C := RX7) (T := TX7) (N := 9) hx hb hts ki7 hown hK hP 0 rfl rfl 6 (by decide) kf37 (fun _ h9 => h9) rfl dX7_count_155 ?_
                      refine va_get (D := (dC, dI)) (ci := 2) (v := .ref (ad 42)) (C := RX2) (T := TX2) (N := 15) hx hb hts ki2 hown hK hP 36 rfl rfl 9 (by decide) kf118 (fun _ h9 => h9) rfl dX7_count_158 ?_
                      obtain ⟨q161, e161, h⟩ := g_b h
                      refine callVi (cc := cX7_count) (ws' := zzX ad cy rb rc (ad 4) (ad 11) pb (ad 4) (ad 20) iX iR iT wT tx iB lB aB iC aC iD lD aD iE aE iK lK aK iW aW iP aP) (As := [.ref (ad 42)]) (rest := []) ⟨hx, hb, hml, hown, hts⟩ (c_K_sizeOf l dC dI cy (fun i => ad (i + 42)) H.size (ad 36) N 8 (lK 9) q161 e161) (cwV 1 hts (goodV m_ml_X7_114 m_im_X2_sizeOf m_se_X2_sizeOf m_in_X2 m_cd_X2_sizeOf) rfl rfl rfl (by decide +kernel) ⟨Nat.le_of_ble_eq_true rfl, Nat.le_of_ble_eq_true rfl⟩) hN hK hP hD hS hA [42] [none, none, none, none, none, none, none, none, none, none, none, none, none, none, none, none, none, none, none, none, none, none, none, none, none, none, none, none, none, none, none, none, none, none, none, none, none, none, none, none, none, none, some 0, none, none, none, none, none, none, none, none, none, none, none] rfl rfl rfl rfl rfl rfl 36 rfl rfl rfl hl.1 rfl (Nat.le_of_ble_eq_true rfl) dX7_count_161 ⟨Nat.zero_le _, Nat.zero_le _⟩ (fun H locs hP hD hS => ?_)
                      have h' := Option.some.inj h
                      rw [← hQQ]
                      exact W.iret (v := q161) hx hb hr (fun t ht hW => ⟨⟨q161, (), rfl, by rw [← h'], by rw [← hWQ, ht]; exact hP, va_K.moved hW.alike hK⟩, hS.F ht⟩) hS.2.2 dX7_count_164
                    · have h := g_f h c7
                      rcases Decidable.em (a1 = (8 : Int32)) with c8 | c8
                      · have h := g_t h c8
                        refine lv_tableIn (off := 140) (tgt := 165) hx hb dX7_count_25 (by rw [c8]; decide) (by rw [c8]; decide) (by rw [c8]; rfl) (by decide) ?_
                        refine lv_aload_n hx hb dX7_count_165 rfl (lv_at hl 0 rfl) ?_
                        refine va_get (D := (dC, dI)) (ci := 7) (v := .ref (ad 36)) (C := RX7) (T := TX7) (N := 9) hx hb hts ki7 hown hK hP 0 rfl rfl 6 (by decide) kf37 (fun _ h9 => h9) rfl dX7_count_166 ?_
                        refine va_get (D := (dC, dI)) (ci := 2) (v := .int (iK 14)) (C := RX2) (T := TX2) (N := 15) hx hb hts ki2 hown hK hP 36 rfl rfl 14 (by decide) kf121 (fun _ h9 => h9) rfl dX7_count_169 ?_
                        have h' := Option.some.inj h
                        rw [← hQQ]
                        exact W.iret (v := (iK 14)) hx hb hr (fun t ht hW => ⟨⟨(iK 14), (), rfl, by rw [← h'], by rw [← hWQ, ht]; exact hP, va_K.moved hW.alike hK⟩, hS.F ht⟩) hS.2.2 dX7_count_172
                      · have h := g_f h c8
                        rcases Decidable.em (a1 = (9 : Int32)) with c9 | c9
                        · have h := g_t h c9
                          refine lv_tableIn (off := 148) (tgt := 173) hx hb dX7_count_25 (by rw [c9]; decide) (by rw [c9]; decide) (by rw [c9]; rfl) (by decide) ?_
                          refine lv_aload_n hx hb dX7_count_173 rfl (lv_at hl 0 rfl) ?_
                          refine va_get (D := (dC, dI)) (ci := 7) (v := .ref (ad 47)) (C := RX7) (T := TX7) (N := 9) hx hb hts ki7 hown hK hP 0 rfl rfl 7 (by decide) kf44 (fun _ h9 => h9) rfl dX7_count_174 ?_
                          refine va_get (D := (dC, dI)) (ci := 6) (v := .int (iW 1)) (C := RX6) (T := TX6) (N := 5) hx hb hts ki6 hown hK hP 47 rfl rfl 1 (by decide) kf124 (fun _ h9 => h9) rfl dX7_count_177 ?_
                          have h' := Option.some.inj h
                          rw [← hQQ]
                          exact W.iret (v := (iW 1)) hx hb hr (fun t ht hW => ⟨⟨(iW 1), (), rfl, by rw [← h'], by rw [← hWQ, ht]; exact hP, va_K.moved hW.alike hK⟩, hS.F ht⟩) hS.2.2 dX7_count_180
                        · have h := g_f h c9
                          rcases Decidable.em (a1 = (10 : Int32)) with c10 | c10
                          · have h := g_t h c10
                            refine lv_tableIn (off := 156) (tgt := 181) hx hb dX7_count_25 (by rw [c10]; decide) (by rw [c10]; decide) (by rw [c10]; rfl) (by decide) ?_
                            refine lv_aload_n hx hb dX7_count_181 rfl (lv_at hl 0 rfl) ?_
                            refine va_get (D := (dC, dI)) (ci := 7) (v := .ref (ad 47)) (C := RX7) (T := TX7) (N := 9) hx hb hts ki7 hown hK hP 0 rfl rfl 7 (by decide) kf44 (fun _ h9 => h9) rfl dX7_count_182 ?_
                            refine va_get (D := (dC, dI)) (ci := 6) (v := .int (iW 4)) (C := RX6) (T := TX6) (N := 5) hx hb hts ki6 hown hK hP 47 rfl rfl 4 (by decide) kf127 (fun _ h9 => h9) rfl dX7_count_185 ?_
                            have h' := Option.some.inj h
                            rw [← hQQ]
                            exact W.iret (v := (iW 4)) hx hb hr (fun t ht hW => ⟨⟨(iW 4), (), rfl, by rw [← h'], by rw [← hWQ, ht]; exact hP, va_K.moved hW.alike hK⟩, hS.F ht⟩) hS.2.2 dX7_count_188
                          · have h := g_f h c10
                            refine lv_tableOut (tgt := 189) hx hb dX7_count_25 (by have z0 := tne (n := 0) (by decide) c0; have z1 := tne (n := 1) (by decide) c1; have z2 := tne (n := 2) (by decide) c2; have z3 := tne (n := 3) (by decide) c3; have z4 := tne (n := 4) (by decide) c4; have z5 := tne (n := 5) (by decide) c5; have z6 := tne (n := 6) (by decide) c6; have z7 := tne (n := 7) (by decide) c7; have z8 := tne (n := 8) (by decide) c8; have z9 := tne (n := 9) (by decide) c9; have z10 := tne (n := 10) (by decide) c10; omega) (by decide) ?_
                            refine lv_bipush (v := (-103)) hx hb dX7_count_189 (by decide) ?_
                            have h' := Option.some.inj h
                            rw [← hQQ]
                            exact W.iret (v := (-103 : Int32)) hx hb hr (fun t ht hW => ⟨⟨(-103 : Int32), (), rfl, by rw [← h'], by rw [← hWQ, ht]; exact hP, va_K.moved hW.alike hK⟩, hS.F ht⟩) hS.2.2 dX7_count_191
    · have h := g_t h cz
      refine lv_bipush (v := (-101)) hx hb dX7_count_21 (by decide) ?_
      have h' := Option.some.inj h
      rw [← hQQ]
      exact W.iret (v := (-101 : Int32)) hx hb hr (fun t ht hW => ⟨⟨(-101 : Int32), (), rfl, by rw [← h'], by rw [← hWQ, ht]; exact hP, va_K.moved hW.alike hK⟩, hS.F ht⟩) hS.2.2 dX7_count_23
  · have h := g_t h cz
    refine lv_aload_n hx hb dX7_count_6 rfl (lv_at hl 0 rfl) ?_
    refine va_get (D := (dC, dI)) (ci := 7) (v := .ref (ad 51)) (C := RX7) (T := TX7) (N := 9) hx hb hts ki7 hown hK hP 0 rfl rfl 8 (by decide) kf51 (fun _ h9 => h9) rfl dX7_count_7 ?_
    refine va_get (D := (dC, dI)) (ci := 3) (v := .int (iP 1)) (C := RX3) (T := TX3) (N := 5) hx hb hts ki3 hown hK hP 51 rfl rfl 1 (by decide) kf86 (fun _ h9 => h9) rfl dX7_count_10 ?_
    have h' := Option.some.inj h
    rw [← hQQ]
    exact W.iret (v := (iP 1)) hx hb hr (fun t ht hW => ⟨⟨(iP 1), (), rfl, by rw [← h'], by rw [← hWQ, ht]; exact hP, va_K.moved hW.alike hK⟩, hS.F ht⟩) hS.2.2 dX7_count_13
