set_option maxHeartbeats 8000000 in
set_option maxRecDepth 100000 in
theorem c_X_ask (l : Launch) (dC : Nat → ClassId) (dI : Nat → Nat → Nat) (cy : Nat → ClassId) (ad : Nat → Nat) (sz : Nat) (rb : Nat) (rc : Nat) (pb : Nat) (N : Nat) (a1 : Int32) (iX : Nat → Int32) (iR : Nat → Int32) (iT : Nat → Int32) (wT : Int64) (tx : Nat → Int32) (iB : Nat → Int32) (lB : Nat → Nat → Int64) (aB : Nat → Nat → Int32) (iC : Nat → Int32) (aC : Nat → Nat → Int32) (iD : Nat → Int32) (lD : Nat → Nat → Int64) (aD : Nat → Nat → Int32) (iE : Nat → Int32) (aE : Nat → Nat → Int32) (iK : Nat → Int32) (lK : Nat → Nat → Int64) (aK : Nat → Nat → Int32) (iW : Nat → Int32) (aW : Nat → Nat → Int32) (iP : Nat → Int32) (aP : Nat → Nat → Int32) (q : Int32) (h : f_X_ask N a1 (iX 5) (iB 11) (aB 10) (lK 3) (lK 9) = some q) : Met l yX7_ask wsX7_ask ({ frames := 3, cells := 0, slots := 0, locals := 67 } : Room) (cP (dC, dI) cy [.ref (ad 0), .int a1] (zzX ad cy rb rc (ad 4) (ad 11) pb (ad 4) (ad 20) iX iR iT wT tx iB lB aB iC aC iD lD aD iE aE iK lK aK iW aW iP aP) sz) (cQi (dC, dI) cy q (zzX ad cy rb rc (ad 4) (ad 11) pb (ad 4) (ad 20) iX iR iT wT tx iB lB aB iC aC iD lD aD iE aE iK lK aK iW aW iP aP) (va_A (zzX ad cy rb rc (ad 4) (ad 11) pb (ad 4) (ad 20) iX iR iT wT tx iB lB aB iC aC iD lD aD iE aE iK lK aK iW aW iP aP) sz)) 0 0 (va_A (zzX ad cy rb rc (ad 4) (ad 11) pb (ad 4) (ad 20) iX iR iT wT tx iB lB aB iC aC iD lD aD iE aE iK lK aK iW aW iP aP) sz) := by
  refine Met.ofW (cc := cX7_ask) (maxL := 2) (ret := (some .int)) (by decide) rfl ?_
  intro p e s m args below meth c s₁ B hml hv
  obtain ⟨hav, hsz, hP, hK, hD0, hN⟩ := hv
  have hx := B.exec
  have hb := B.bytes
  have hr := B.returns
  have hts := atoms_spec (ws := wsX7_ask) B.pre
  have hown : s.vm.findClass RX7 = some m.cls := findClass_of_methodNamed B.named
  have hlocks := B.notSynchronized
  subst hsz
  have hD := hD0.self (sz := s.heap.size)
  generalize hAe : va_A (zzX ad cy rb rc (ad 4) (ad 11) pb (ad 4) (ad 20) iX iR iT wT tx iB lB aB iC aC iD lD aD iE aE iK lK aK iW aW iP aP) s.heap.size = A at hD ⊢
  have hA : ∀ q : Nat, s.heap.size ≤ q → A q := fun q h => by rw [← hAe]; exact Or.inr h
  have hS : va_S A s.heap s.heap [] := va_S.rf
  generalize hWQ : (zzX ad cy rb rc (ad 4) (ad 11) pb (ad 4) (ad 20) iX iR iT wT tx iB lB aB iC aC iD lD aD iE aE iK lK aK iW aW iP aP) = WQ
  generalize hQQ : MQ below (cQi (dC, dI) cy q WQ A) args s 0 0 A = QQ
  have hl := lv_entry ([.ref (ad 0), .int a1] : List Value) (n := 2) (Nat.le_of_ble_eq_true rfl)
  have hfr := lg_entry_eq m ([.ref (ad 0), .int a1] : List Value) 2
  rw [← hav] at hfr
  rw [hfr]
  clear hfr hav
  generalize (lg_sl ([.ref (ad 0), .int a1] : List Value) ++ List.replicate (2 - (lg_sl ([.ref (ad 0), .int a1] : List Value)).length) Slot.unset).toArray = ls at hl ⊢
  have hl : lv_has ls 2 [(0, .ref (ad 0)), (1, .int a1)] := hl
  have kf70 := hts _ (List.mem_cons_of_mem _ m_fl_X7_70)
  have ki7 := (fun w h => List.mem_cons_of_mem _ (i_X7 w h) : ∀ w ∈ u_ws RX7 TX7 9, w ∈ wsX7_ask)
  have kf37 := hts _ (List.mem_cons_of_mem _ m_fl_X7_37)
  have kf16 := hts _ (List.mem_cons_of_mem _ m_fl_X7_16)
  have kf118 := hts _ (List.mem_cons_of_mem _ m_fl_X7_118)
  have ki2 := (fun w h => List.mem_cons_of_mem _ (i_X2 w h) : ∀ w ∈ u_ws RX2 TX2 15, w ∈ wsX7_ask)
  refine (?_ : ∀ (H : Heap) (locs : List Loc), va_P (dC, dI) vwCl (zzX ad cy rb rc (ad 4) (ad 11) pb (ad 4) (ad 20) iX iR iT wT tx iB lB aB iC aC iD lD aD iE aE iK lK aK iW aW iP aP) H → va_D A (zzX ad cy rb rc (ad 4) (ad 11) pb (ad 4) (ad 20) iX iR iT wT tx iB lB aB iC aC iD lD aD iE aE iK lK aK iW aW iP aP) → va_S A s.heap H locs → W p l e ({ frames := 3, cells := 0, slots := 0, locals := 67 } : Room) s m args below meth c H locs 0 0 QQ (F0 m 0 ls [])) s.heap [] hP hD hS
  clear hP hD hS
  have B52 : ∀ (s0 : Int32) (H : Heap) (locs : List Loc) (ls : Array Slot), f_X_ask_52 N (iX 5) (iB 11) (aB 10) (lK 3) (lK 9) s0 = some q → va_P (dC, dI) vwCl (zzX ad cy rb rc (ad 4) (ad 11) pb (ad 4) (ad 20) iX iR iT wT tx iB lB aB iC aC iD lD aD iE aE iK lK aK iW aW iP aP) H → va_D A (zzX ad cy rb rc (ad 4) (ad 11) pb (ad 4) (ad 20) iX iR iT wT tx iB lB aB iC aC iD lD aD iE aE iK lK aK iW aW iP aP) → va_S A s.heap H locs → lv_has ls 2 [] → W p l e ({ frames := 3, cells := 0, slots := 0, locals := 67 } : Room) s m args below meth c H locs 0 0 QQ (F0 m 52 ls [.int s0]) := by
    intro s0 H locs ls h hP hD hS hl
    unfold f_X_ask_52 at h
    obtain ⟨q52, e52, h⟩ := g_b h
    refine callSi (cc := cX7_ask) (ws' := zzX ad cy rb rc (ad 4) (ad 11) pb (ad 4) (ad 20) iX iR iT wT tx iB lB aB iC aC iD lD aD iE aE iK lK aK iW aW iP aP) (As := [.int s0]) (rest := []) ⟨hx, hb, hml, hown, hts⟩ (c_X_oneIf l dC dI cy ad H.size s0 q52 e52) (va_cwS 1 hts (goodS m_ml_X7_148 m_st_X7_oneIf m_in_X7 m_cd_X7_oneIf) rfl rfl rfl (by decide +kernel) ⟨Nat.le_of_ble_eq_true rfl, Nat.le_of_ble_eq_true rfl⟩) hN hK hP hD hS hA [] [none, none, none, none, none, none, none, none, none, none, none, none, none, none, none, none, none, none, none, none, none, none, none, none, none, none, none, none, none, none, none, none, none, none, none, none, none, none, none, none, none, none, none, none, none, none, none, none, none, none, none, none, none, none] rfl rfl rfl rfl rfl rfl rfl hl.1 rfl (Nat.le_of_ble_eq_true rfl) dX7_ask_52 ⟨Nat.zero_le _, Nat.zero_le _⟩ (fun H locs hP hD hS => ?_)
    have h' := Option.some.inj h
    rw [← hQQ]
    exact W.iret (v := q52) hx hb hr (fun t ht hW => ⟨⟨q52, (), rfl, by rw [← h'], by rw [← hWQ, ht]; exact hP, va_K.moved hW.alike hK⟩, hS.F ht⟩) hS.2.2 dX7_ask_55
  intro H locs hP hD hS
  unfold f_X_ask at h
  refine lv_aload_n hx hb dX7_ask_0 rfl (lv_at hl 0 rfl) ?_
  refine va_get (D := (dC, dI)) (ci := 7) (v := .int (iX 5)) (C := RX7) (T := TX7) (N := 9) hx hb hts ki7 hown hK hP 0 rfl rfl 5 (by decide) kf70 (fun _ h9 => h9) rfl dX7_ask_1 ?_
  refine lv_if_ne (tgt := 10) hx hb dX7_ask_4 (by decide) (fun cz => ?_) (fun cz => ?_)
  · have h := g_f h cz
    refine lv_aload_n hx hb dX7_ask_10 rfl (lv_at hl 0 rfl) ?_
    refine lv_iload_n hx hb dX7_ask_11 rfl (lv_at hl 1 rfl) ?_
    obtain ⟨q12, e12, h⟩ := g_b h
    refine callVis (cc := cX7_ask) (w1 := zzX ad cy rb rc (ad 4) (ad 11) pb (ad 4) (ad 20) iX iR iT wT tx iB lB aB iC aC iD lD aD iE aE iK lK aK iW aW iP aP) (As := [.int a1]) (rest := []) ⟨hx, hb, hml, hown, hts⟩ (c_X_isQuestion l dC dI cy ad H.size rb rc pb a1 iX iR iT wT tx iB lB aB iC aC iD lD aD iE aE iK lK aK iW aW iP aP q12 e12) (cwV 1 hts (goodV m_ml_X7_152 m_im_X7_isQuestion m_se_X7_isQuestion m_in_X7 m_cd_X7_isQuestion) rfl rfl rfl (by decide +kernel) ⟨Nat.le_of_ble_eq_true rfl, Nat.le_of_ble_eq_true rfl⟩) hN hK hP hD hS hA rfl 0 rfl rfl rfl hl.1 rfl (Nat.le_of_ble_eq_true rfl) dX7_ask_12 ⟨Nat.zero_le _, Nat.zero_le _⟩ (fun H locs hP hD hS => ?_)
    refine lv_if_ne (tgt := 21) hx hb dX7_ask_15 (by decide) (fun cz => ?_) (fun cz => ?_)
    · have h := g_f h cz
      refine lv_aload_n hx hb dX7_ask_21 rfl (lv_at hl 0 rfl) ?_
      refine va_get (D := (dC, dI)) (ci := 7) (v := .ref (ad 36)) (C := RX7) (T := TX7) (N := 9) hx hb hts ki7 hown hK hP 0 rfl rfl 6 (by decide) kf37 (fun _ h9 => h9) rfl dX7_ask_22 ?_
      refine lv_aload_n hx hb dX7_ask_25 rfl (lv_at hl 0 rfl) ?_
      refine va_get (D := (dC, dI)) (ci := 7) (v := .ref (ad 4)) (C := RX7) (T := TX7) (N := 9) hx hb hts ki7 hown hK hP 0 rfl rfl 3 (by decide) kf16 (fun _ h9 => h9) rfl dX7_ask_26 ?_
      refine lv_iload_n hx hb dX7_ask_29 rfl (lv_at hl 1 rfl) ?_
      obtain ⟨q30, e30, h⟩ := g_b h
      refine callVi (cc := cX7_ask) (ws' := zzX ad cy rb rc (ad 4) (ad 11) pb (ad 4) (ad 20) iX iR iT wT tx iB lB aB iC aC iD lD aD iE aE iK lK aK iW aW iP aP) (As := [.int a1]) (rest := [.ref (ad 36)]) ⟨hx, hb, hml, hown, hts⟩ (c_B_question l dC dI cy (fun i => ad (i + 4)) H.size a1 iB lB aB iC aC q30 e30) (cwV 1 hts (goodV m_ml_X7_155 m_im_X0_question m_se_X0_question m_in_X0 m_cd_X0_question) rfl rfl rfl (by decide +kernel) ⟨Nat.le_of_ble_eq_true rfl, Nat.le_of_ble_eq_true rfl⟩) hN hK hP hD hS hA [4, 5, 6, 7, 8, 9, 10, 11, 12, 13, 14, 15, 16, 17, 18, 19] [none, none, none, none, some 0, some 1, some 2, some 3, some 4, some 5, some 6, some 7, some 8, some 9, some 10, some 11, some 12, some 13, some 14, some 15, none, none, none, none, none, none, none, none, none, none, none, none, none, none, none, none, none, none, none, none, none, none, none, none, none, none, none, none, none, none, none, none, none, none] rfl rfl rfl rfl rfl rfl 4 rfl rfl rfl hl.1 rfl (Nat.le_of_ble_eq_true rfl) dX7_ask_30 ⟨Nat.zero_le _, Nat.zero_le _⟩ (fun H locs hP hD hS => ?_)
      refine lv_aload_n hx hb dX7_ask_33 rfl (lv_at hl 0 rfl) ?_
      refine va_get (D := (dC, dI)) (ci := 7) (v := .ref (ad 36)) (C := RX7) (T := TX7) (N := 9) hx hb hts ki7 hown hK hP 0 rfl rfl 6 (by decide) kf37 (fun _ h9 => h9) rfl dX7_ask_34 ?_
      refine va_get (D := (dC, dI)) (ci := 2) (v := .ref (ad 42)) (C := RX2) (T := TX2) (N := 15) hx hb hts ki2 hown hK hP 36 rfl rfl 9 (by decide) kf118 (fun _ h9 => h9) rfl dX7_ask_37 ?_
      obtain ⟨q40, e40, h⟩ := g_b h
      refine callVi (cc := cX7_ask) (ws' := zzX ad cy rb rc (ad 4) (ad 11) pb (ad 4) (ad 20) iX iR iT wT tx iB lB aB iC aC iD lD aD iE aE iK lK aK iW aW iP aP) (As := [.int q30, .ref (ad 42)]) (rest := []) ⟨hx, hb, hml, hown, hts⟩ (c_K_leastWhere_standing l dC dI cy (fun i => ad (([36, 37, 38, 39, 40, 41, 42, 43, 44, 45, 46, 4, 5, 6, 7, 8, 9, 10, 11, 12, 13, 14, 15, 16, 17, 18, 19] : List Nat).getD i 0)) H.size N q30 iK lK aK iB lB aB iC aC q40 e40) (cwV 2 hts (goodV m_ml_X7_162 m_im_X2_leastWhere m_se_X2_leastWhere m_in_X2 m_cd_X2_leastWhere) rfl rfl rfl (by decide +kernel) ⟨Nat.le_of_ble_eq_true rfl, Nat.le_of_ble_eq_true rfl⟩) hN hK hP hD hS hA [36, 37, 38, 39, 40, 41, 42, 43, 44, 45, 46, 4, 5, 6, 7, 8, 9, 10, 11, 12, 13, 14, 15, 16, 17, 18, 19] [none, none, none, none, some 11, some 12, some 13, some 14, some 15, some 16, some 17, some 18, some 19, some 20, some 21, some 22, some 23, some 24, some 25, some 26, none, none, none, none, none, none, none, none, none, none, none, none, none, none, none, none, some 0, some 1, some 2, some 3, some 4, some 5, some 6, some 7, some 8, some 9, some 10, none, none, none, none, none, none, none] rfl rfl rfl rfl rfl rfl 36 rfl rfl rfl hl.1 rfl (Nat.le_of_ble_eq_true rfl) dX7_ask_40 ⟨Nat.zero_le _, Nat.zero_le _⟩ (fun H locs hP hD hS => ?_)
      refine lv_iconst (v := (-1)) hx hb dX7_ask_43 (by decide) ?_
      refine lv_icmp_eq (tgt := 51) hx hb dX7_ask_44 (by decide) (fun cz => ?_) (fun cz => ?_)
      · have h := g_t h cz
        refine lv_iconst (v := 0) hx hb dX7_ask_51 (by decide) ?_
        exact B52 ((0 : Int32)) H locs ls h hP hD hS (lv_sub hl [] rfl)
      · have h := g_f h cz
        refine lv_iconst (v := 1) hx hb dX7_ask_47 (by decide) ?_
        refine lv_goto (tgt := 52) hx hb dX7_ask_48 (by decide) ?_
        exact B52 ((1 : Int32)) H locs ls h hP hD hS (lv_sub hl [] rfl)
    · have h := g_t h cz
      refine lv_bipush (v := (-102)) hx hb dX7_ask_18 (by decide) ?_
      have h' := Option.some.inj h
      rw [← hQQ]
      exact W.iret (v := (-102 : Int32)) hx hb hr (fun t ht hW => ⟨⟨(-102 : Int32), (), rfl, by rw [← h'], by rw [← hWQ, ht]; exact hP, va_K.moved hW.alike hK⟩, hS.F ht⟩) hS.2.2 dX7_ask_20
  · have h := g_t h cz
    refine lv_bipush (v := (-101)) hx hb dX7_ask_7 (by decide) ?_
    have h' := Option.some.inj h
    rw [← hQQ]
    exact W.iret (v := (-101 : Int32)) hx hb hr (fun t ht hW => ⟨⟨(-101 : Int32), (), rfl, by rw [← h'], by rw [← hWQ, ht]; exact hP, va_K.moved hW.alike hK⟩, hS.F ht⟩) hS.2.2 dX7_ask_9
set_option maxHeartbeats 8000000 in
set_option maxRecDepth 100000 in
theorem c_X_isName (l : Launch) (dC : Nat → ClassId) (dI : Nat → Nat → Nat) (cy : Nat → ClassId) (ad : Nat → Nat) (sz : Nat) (rb : Nat) (rc : Nat) (pb : Nat) (a1 : Int32) (iX : Nat → Int32) (iR : Nat → Int32) (iT : Nat → Int32) (wT : Int64) (tx : Nat → Int32) (iB : Nat → Int32) (lB : Nat → Nat → Int64) (aB : Nat → Nat → Int32) (iC : Nat → Int32) (aC : Nat → Nat → Int32) (iD : Nat → Int32) (lD : Nat → Nat → Int64) (aD : Nat → Nat → Int32) (iE : Nat → Int32) (aE : Nat → Nat → Int32) (iK : Nat → Int32) (lK : Nat → Nat → Int64) (aK : Nat → Nat → Int32) (iW : Nat → Int32) (aW : Nat → Nat → Int32) (iP : Nat → Int32) (aP : Nat → Nat → Int32) (q : Int32) (h : f_X_isName a1 (iB 3) = some q) : Met l yX7_isName wsX7_isName ({ frames := 0, cells := 0, slots := 0, locals := 0 } : Room) (cP (dC, dI) cy [.ref (ad 0), .int a1] (zzX ad cy rb rc (ad 4) (ad 11) pb (ad 4) (ad 20) iX iR iT wT tx iB lB aB iC aC iD lD aD iE aE iK lK aK iW aW iP aP) sz) (cQi (dC, dI) cy q (zzX ad cy rb rc (ad 4) (ad 11) pb (ad 4) (ad 20) iX iR iT wT tx iB lB aB iC aC iD lD aD iE aE iK lK aK iW aW iP aP) (va_A (zzX ad cy rb rc (ad 4) (ad 11) pb (ad 4) (ad 20) iX iR iT wT tx iB lB aB iC aC iD lD aD iE aE iK lK aK iW aW iP aP) sz)) 0 0 (va_A (zzX ad cy rb rc (ad 4) (ad 11) pb (ad 4) (ad 20) iX iR iT wT tx iB lB aB iC aC iD lD aD iE aE iK lK aK iW aW iP aP) sz) := by
  refine Met.ofW (cc := cX7_isName) (maxL := 2) (ret := (some .boolean)) (by decide) rfl ?_
  intro p e s m args below meth c s₁ B hml hv
  obtain ⟨hav, hsz, hP, hK, hD0, hN⟩ := hv
  have hx := B.exec
  have hb := B.bytes
  have hr := B.returns
  have hts := atoms_spec (ws := wsX7_isName) B.pre
  have hown : s.vm.findClass RX7 = some m.cls := findClass_of_methodNamed B.named
  have hlocks := B.notSynchronized
  subst hsz
  have hD := hD0.self (sz := s.heap.size)
  generalize hAe : va_A (zzX ad cy rb rc (ad 4) (ad 11) pb (ad 4) (ad 20) iX iR iT wT tx iB lB aB iC aC iD lD aD iE aE iK lK aK iW aW iP aP) s.heap.size = A at hD ⊢
  have hA : ∀ q : Nat, s.heap.size ≤ q → A q := fun q h => by rw [← hAe]; exact Or.inr h
  have hS : va_S A s.heap s.heap [] := va_S.rf
  generalize hWQ : (zzX ad cy rb rc (ad 4) (ad 11) pb (ad 4) (ad 20) iX iR iT wT tx iB lB aB iC aC iD lD aD iE aE iK lK aK iW aW iP aP) = WQ
  generalize hQQ : MQ below (cQi (dC, dI) cy q WQ A) args s 0 0 A = QQ
  have hl := lv_entry ([.ref (ad 0), .int a1] : List Value) (n := 2) (Nat.le_of_ble_eq_true rfl)
  have hfr := lg_entry_eq m ([.ref (ad 0), .int a1] : List Value) 2
  rw [← hav] at hfr
  rw [hfr]
  clear hfr hav
  generalize (lg_sl ([.ref (ad 0), .int a1] : List Value) ++ List.replicate (2 - (lg_sl ([.ref (ad 0), .int a1] : List Value)).length) Slot.unset).toArray = ls at hl ⊢
  have hl : lv_has ls 2 [(0, .ref (ad 0)), (1, .int a1)] := hl
  have kf16 := hts _ (List.mem_cons_of_mem _ m_fl_X7_16)
  have ki7 := (fun w h => List.mem_cons_of_mem _ (i_X7 w h) : ∀ w ∈ u_ws RX7 TX7 9, w ∈ wsX7_isName)
  have kf89 := hts _ (List.mem_cons_of_mem _ m_fl_X7_89)
  have ki0 := (fun w h => List.mem_cons_of_mem _ (i_X0 w h) : ∀ w ∈ u_ws RX0 TX0 15, w ∈ wsX7_isName)
  refine (?_ : ∀ (H : Heap) (locs : List Loc), va_P (dC, dI) vwCl (zzX ad cy rb rc (ad 4) (ad 11) pb (ad 4) (ad 20) iX iR iT wT tx iB lB aB iC aC iD lD aD iE aE iK lK aK iW aW iP aP) H → va_D A (zzX ad cy rb rc (ad 4) (ad 11) pb (ad 4) (ad 20) iX iR iT wT tx iB lB aB iC aC iD lD aD iE aE iK lK aK iW aW iP aP) → va_S A s.heap H locs → W p l e ({ frames := 0, cells := 0, slots := 0, locals := 0 } : Room) s m args below meth c H locs 0 0 QQ (F0 m 0 ls [])) s.heap [] hP hD hS
  clear hP hD hS
  intro H locs hP hD hS
  unfold f_X_isName at h
  refine lv_iload_n hx hb dX7_isName_0 rfl (lv_at hl 1 rfl) ?_
  refine lv_if_lt (tgt := 19) hx hb dX7_isName_1 (by decide) (fun cz => ?_) (fun cz => ?_)
  · have h := g_t h cz
    refine lv_iconst (v := 0) hx hb dX7_isName_19 (by decide) ?_
    have h' := Option.some.inj h
    rw [← hQQ]
    exact W.zret (v := (0 : Int32)) hx hb hr rfl (fun t ht hW => ⟨⟨(0 : Int32), (), rfl, by rw [← h'], by rw [← hWQ, ht]; exact hP, va_K.moved hW.alike hK⟩, hS.F ht⟩) hS.2.2 dX7_isName_20
  · have h := g_f h cz
    refine lv_iload_n hx hb dX7_isName_4 rfl (lv_at hl 1 rfl) ?_
    refine lv_aload_n hx hb dX7_isName_5 rfl (lv_at hl 0 rfl) ?_
    refine va_get (D := (dC, dI)) (ci := 7) (v := .ref (ad 4)) (C := RX7) (T := TX7) (N := 9) hx hb hts ki7 hown hK hP 0 rfl rfl 3 (by decide) kf16 (fun _ h9 => h9) rfl dX7_isName_6 ?_
    refine va_get (D := (dC, dI)) (ci := 0) (v := .int (iB 3)) (C := RX0) (T := TX0) (N := 15) hx hb hts ki0 hown hK hP 4 rfl rfl 3 (by decide) kf89 (fun _ h9 => h9) rfl dX7_isName_9 ?_
    refine lv_icmp_ge (tgt := 19) hx hb dX7_isName_12 (by decide) (fun cz => ?_) (fun cz => ?_)
    · have h := g_t h cz
      refine lv_iconst (v := 0) hx hb dX7_isName_19 (by decide) ?_
      have h' := Option.some.inj h
      rw [← hQQ]
      exact W.zret (v := (0 : Int32)) hx hb hr rfl (fun t ht hW => ⟨⟨(0 : Int32), (), rfl, by rw [← h'], by rw [← hWQ, ht]; exact hP, va_K.moved hW.alike hK⟩, hS.F ht⟩) hS.2.2 dX7_isName_20
    · have h := g_f h cz
      refine lv_iconst (v := 1) hx hb dX7_isName_15 (by decide) ?_
      refine lv_goto (tgt := 20) hx hb dX7_isName_16 (by decide) ?_
      have h' := Option.some.inj h
      rw [← hQQ]
      exact W.zret (v := (1 : Int32)) hx hb hr rfl (fun t ht hW => ⟨⟨(1 : Int32), (), rfl, by rw [← h'], by rw [← hWQ, ht]; exact hP, va_K.moved hW.alike hK⟩, hS.F ht⟩) hS.2.2 dX7_isName_20
set_option maxHeartbeats 8000000 in
set_option maxRecDepth 100000 in
theorem c_C_nodeOfName (l : Launch) (dC : Nat → ClassId) (dI : Nat → Nat → Nat) (cy : Nat → ClassId) (ad : Nat → Nat) (sz : Nat) (N : Nat) (a1 : Int32) (iC : Nat → Int32) (aC : Nat → Nat → Int32) (q : Int32) (h : f_C_nodeOfName N a1 (iC 4) (aC 0) (aC 1) (aC 2) = some q) : Met l yX1_nodeOfName wsX1_nodeOfName ({ frames := 1, cells := 0, slots := 0, locals := 24 } : Room) (cP (dC, dI) cy [.ref (ad 0), .int a1] (zzC ad cy iC aC) sz) (cQi (dC, dI) cy q (zzC ad cy iC aC) (va_A (zzC ad cy iC aC) sz)) 0 0 (va_A (zzC ad cy iC aC) sz) := by
  refine Met.ofW (cc := cX1_nodeOfName) (maxL := 2) (ret := (some .int)) (by decide) rfl ?_
  intro p e s m args below meth c s₁ B hml hv
  obtain ⟨hav, hsz, hP, hK, hD0, hN⟩ := hv
  have hx := B.exec
  have hb := B.bytes
  have hr := B.returns
  have hts := atoms_spec (ws := wsX1_nodeOfName) B.pre
  have hown : s.vm.findClass RX1 = some m.cls := findClass_of_methodNamed B.named
  have hlocks := B.notSynchronized
  subst hsz
  have hD := hD0.self (sz := s.heap.size)
  generalize hAe : va_A (zzC ad cy iC aC) s.heap.size = A at hD ⊢
  have hA : ∀ q : Nat, s.heap.size ≤ q → A q := fun q h => by rw [← hAe]; exact Or.inr h
  have hS : va_S A s.heap s.heap [] := va_S.rf
  generalize hWQ : (zzC ad cy iC aC) = WQ
  generalize hQQ : MQ below (cQi (dC, dI) cy q WQ A) args s 0 0 A = QQ
  have hl := lv_entry ([.ref (ad 0), .int a1] : List Value) (n := 2) (Nat.le_of_ble_eq_true rfl)
  have hfr := lg_entry_eq m ([.ref (ad 0), .int a1] : List Value) 2
  rw [← hav] at hfr
  rw [hfr]
  clear hfr hav
  generalize (lg_sl ([.ref (ad 0), .int a1] : List Value) ++ List.replicate (2 - (lg_sl ([.ref (ad 0), .int a1] : List Value)).length) Slot.unset).toArray = ls at hl ⊢
  have hl : lv_has ls 2 [(0, .ref (ad 0)), (1, .int a1)] := hl
  refine (?_ : ∀ (H : Heap) (locs : List Loc), va_P (dC, dI) vwCl (zzC ad cy iC aC) H → va_D A (zzC ad cy iC aC) → va_S A s.heap H locs → W p l e ({ frames := 1, cells := 0, slots := 0, locals := 24 } : Room) s m args below meth c H locs 0 0 QQ (F0 m 0 ls [])) s.heap [] hP hD hS
  clear hP hD hS
  intro H locs hP hD hS
  unfold f_C_nodeOfName at h
  refine lv_aload_n hx hb dX1_nodeOfName_0 rfl (lv_at hl 0 rfl) ?_
  refine lv_iconst (v := 0) hx hb dX1_nodeOfName_1 (by decide) ?_
  refine lv_iload_n hx hb dX1_nodeOfName_2 rfl (lv_at hl 1 rfl) ?_
  refine lv_iconst (v := 0) hx hb dX1_nodeOfName_3 (by decide) ?_
  obtain ⟨q4, e4, h⟩ := g_b h
  refine callVis (cc := cX1_nodeOfName) (w1 := zzC ad cy iC aC) (As := [.int ((0 : Int32)), .int a1, .int ((0 : Int32))]) (rest := []) ⟨hx, hb, hml, hown, hts⟩ (c_C_find l dC dI cy ad H.size N ((0 : Int32)) a1 ((0 : Int32)) iC aC q4 e4) (cwV 3 hts (goodV m_ml_X1_43 m_im_X1_find m_se_X1_find m_in_X1 m_cd_X1_find) rfl rfl rfl (by decide +kernel) ⟨Nat.le_of_ble_eq_true rfl, Nat.le_of_ble_eq_true rfl⟩) hN hK hP hD hS hA rfl 0 rfl rfl rfl hl.1 rfl (Nat.le_of_ble_eq_true rfl) dX1_nodeOfName_4 ⟨Nat.zero_le _, Nat.zero_le _⟩ (fun H locs hP hD hS => ?_)
  have h' := Option.some.inj h
  rw [← hQQ]
  exact W.iret (v := q4) hx hb hr (fun t ht hW => ⟨⟨q4, (), rfl, by rw [← h'], by rw [← hWQ, ht]; exact hP, va_K.moved hW.alike hK⟩, hS.F ht⟩) hS.2.2 dX1_nodeOfName_7
set_option maxHeartbeats 8000000 in
set_option maxRecDepth 100000 in
theorem c_K_implies (l : Launch) (dC : Nat → ClassId) (dI : Nat → Nat → Nat) (cy : Nat → ClassId) (ad : Nat → Nat) (sz : Nat) (N : Nat) (a1 : Int32) (a2 : Int32) (iK : Nat → Int32) (lK : Nat → Nat → Int64) (aK : Nat → Nat → Int32) (iB : Nat → Int32) (lB : Nat → Nat → Int64) (aB : Nat → Nat → Int32) (iC : Nat → Int32) (aC : Nat → Nat → Int32) (q : Int32) (h : f_K_implies N a1 a2 (lK 3) (lK 9) = some q) : Met l yX2_implies wsX2_implies ({ frames := 1, cells := 0, slots := 0, locals := 22 } : Room) (cP (dC, dI) cy [.ref (ad 0), .int a1, .int a2] (zzK ad cy (ad 11) (ad 18) iK lK aK iB lB aB iC aC) sz) (cQi (dC, dI) cy q (zzK ad cy (ad 11) (ad 18) iK lK aK iB lB aB iC aC) (va_A (zzK ad cy (ad 11) (ad 18) iK lK aK iB lB aB iC aC) sz)) 0 0 (va_A (zzK ad cy (ad 11) (ad 18) iK lK aK iB lB aB iC aC) sz) := by
  refine Met.ofW (cc := cX2_implies) (maxL := 4) (ret := (some .boolean)) (by decide) rfl ?_
  intro p e s m args below meth c s₁ B hml hv
  obtain ⟨hav, hsz, hP, hK, hD0, hN⟩ := hv
  have hx := B.exec
  have hb := B.bytes
  have hr := B.returns
  have hts := atoms_spec (ws := wsX2_implies) B.pre
  have hown : s.vm.findClass RX2 = some m.cls := findClass_of_methodNamed B.named
  have hlocks := B.notSynchronized
  subst hsz
  have hD := hD0.self (sz := s.heap.size)
  generalize hAe : va_A (zzK ad cy (ad 11) (ad 18) iK lK aK iB lB aB iC aC) s.heap.size = A at hD ⊢
  have hA : ∀ q : Nat, s.heap.size ≤ q → A q := fun q h => by rw [← hAe]; exact Or.inr h
  have hS : va_S A s.heap s.heap [] := va_S.rf
  generalize hWQ : (zzK ad cy (ad 11) (ad 18) iK lK aK iB lB aB iC aC) = WQ
  generalize hQQ : MQ below (cQi (dC, dI) cy q WQ A) args s 0 0 A = QQ
  have hl := lv_entry ([.ref (ad 0), .int a1, .int a2] : List Value) (n := 4) (Nat.le_of_ble_eq_true rfl)
  have hfr := lg_entry_eq m ([.ref (ad 0), .int a1, .int a2] : List Value) 4
  rw [← hav] at hfr
  rw [hfr]
  clear hfr hav
  generalize (lg_sl ([.ref (ad 0), .int a1, .int a2] : List Value) ++ List.replicate (4 - (lg_sl ([.ref (ad 0), .int a1, .int a2] : List Value)).length) Slot.unset).toArray = ls at hl ⊢
  have hl : lv_has ls 4 [(0, .ref (ad 0)), (1, .int a1), (2, .int a2)] := hl
  have kf28 := hts _ (List.mem_cons_of_mem _ m_fl_X2_28)
  have ki2 := (fun w h => List.mem_cons_of_mem _ (i_X2 w h) : ∀ w ∈ u_ws RX2 TX2 15, w ∈ wsX2_implies)
  have kc88 := hts _ (List.mem_cons_of_mem _ m_kl_X2_88)
  refine (?_ : ∀ (H : Heap) (locs : List Loc), va_P (dC, dI) vwCl (zzK ad cy (ad 11) (ad 18) iK lK aK iB lB aB iC aC) H → va_D A (zzK ad cy (ad 11) (ad 18) iK lK aK iB lB aB iC aC) → va_S A s.heap H locs → W p l e ({ frames := 1, cells := 0, slots := 0, locals := 22 } : Room) s m args below meth c H locs 0 0 QQ (F0 m 0 ls [])) s.heap [] hP hD hS
  clear hP hD hS
  have B2 : ∀ (n : Nat) (v1 : Int32) (v2 : Int32) (v3 : Int32) (H : Heap) (locs : List Loc) (ls : Array Slot), f_K_implies_2 N (lK 3) (lK 9) v1 v2 n v3 = some q → va_P (dC, dI) vwCl (zzK ad cy (ad 11) (ad 18) iK lK aK iB lB aB iC aC) H → va_D A (zzK ad cy (ad 11) (ad 18) iK lK aK iB lB aB iC aC) → va_S A s.heap H locs → lv_has ls 4 [(0, .ref (ad 0)), (1, .int v1), (2, .int v2), (3, .int v3)] → W p l e ({ frames := 1, cells := 0, slots := 0, locals := 22 } : Room) s m args below meth c H locs 0 0 QQ (F0 m 2 ls []) := by
    intro n
    induction n with
    | zero =>
      intro v1 v2 v3 H locs ls h hP hD hS hl
      rw [f_K_implies_2] at h
      cases h
    | succ n ih =>
      intro v1 v2 v3 H locs ls h hP hD hS hl
      rw [f_K_implies_2] at h
      refine lv_iload_n hx hb dX2_implies_2 rfl (lv_at hl 3 rfl) ?_
      refine lv_bipush (v := 8) hx hb dX2_implies_3 (by decide) ?_
      refine lv_icmp_ge (tgt := 45) hx hb dX2_implies_5 (by decide) (fun cz => ?_) (fun cz => ?_)
      · have h := g_t h cz
        refine lv_iconst (v := 1) hx hb dX2_implies_45 (by decide) ?_
        have h' := Option.some.inj h
        rw [← hQQ]
        exact W.zret (v := (1 : Int32)) hx hb hr rfl (fun t ht hW => ⟨⟨(1 : Int32), (), rfl, by rw [← h'], by rw [← hWQ, ht]; exact hP, va_K.moved hW.alike hK⟩, hS.F ht⟩) hS.2.2 dX2_implies_46
      · have h := g_f h cz
        refine lv_aload_n hx hb dX2_implies_8 rfl (lv_at hl 0 rfl) ?_
        refine va_get (D := (dC, dI)) (ci := 2) (v := .ref (ad 6)) (C := RX2) (T := TX2) (N := 15) hx hb hts ki2 hown hK hP 0 rfl rfl 9 (by decide) kf28 (fun _ h9 => h9) rfl dX2_implies_9 ?_
        refine lv_iload_n hx hb dX2_implies_12 rfl (lv_at hl 3 rfl) ?_
        obtain ⟨g_22, h⟩ := g_n h
        refine va_lald (f := (lK 9)) hx hb hK hP 6 2 rfl rfl g_22 dX2_implies_13 ?_
        refine lv_aload_n hx hb dX2_implies_14 rfl (lv_at hl 0 rfl) ?_
        refine lv_iload_n hx hb dX2_implies_15 rfl (lv_at hl 1 rfl) ?_
        refine lv_iload_n hx hb dX2_implies_16 rfl (lv_at hl 3 rfl) ?_
        obtain ⟨q17, e17, h⟩ := g_b h
        refine callVls (cc := cX2_implies) (w1 := zzK ad cy (ad 11) (ad 18) iK lK aK iB lB aB iC aC) (As := [.int v1, .int v3]) (rest := [.long (((lK 9) v3.toNatClampNeg))]) ⟨hx, hb, hml, hown, hts⟩ (c_K_truthOf l dC dI cy ad H.size v1 v3 iK lK aK iB lB aB iC aC q17 e17) (cwV 2 hts (goodV m_ml_X2_81 m_im_X2_truthOf m_se_X2_truthOf m_in_X2 m_cd_X2_truthOf) rfl rfl rfl (by decide +kernel) ⟨Nat.le_of_ble_eq_true rfl, Nat.le_of_ble_eq_true rfl⟩) hN hK hP hD hS hA rfl 0 rfl rfl rfl hl.1 rfl (Nat.le_of_ble_eq_true rfl) dX2_implies_17 ⟨Nat.zero_le _, Nat.zero_le _⟩ (fun H locs hP hD hS => ?_)
        refine lv_land hx hb dX2_implies_20 ?_
        refine lv_aload_n hx hb dX2_implies_21 rfl (lv_at hl 0 rfl) ?_
        refine lv_iload_n hx hb dX2_implies_22 rfl (lv_at hl 2 rfl) ?_
        refine lv_iload_n hx hb dX2_implies_23 rfl (lv_at hl 3 rfl) ?_
        obtain ⟨q24, e24, h⟩ := g_b h
        refine callVls (cc := cX2_implies) (w1 := zzK ad cy (ad 11) (ad 18) iK lK aK iB lB aB iC aC) (As := [.int v2, .int v3]) (rest := [.long ((((lK 9) v3.toNatClampNeg) &&& q17))]) ⟨hx, hb, hml, hown, hts⟩ (c_K_truthOf l dC dI cy ad H.size v2 v3 iK lK aK iB lB aB iC aC q24 e24) (cwV 2 hts (goodV m_ml_X2_81 m_im_X2_truthOf m_se_X2_truthOf m_in_X2 m_cd_X2_truthOf) rfl rfl rfl (by decide +kernel) ⟨Nat.le_of_ble_eq_true rfl, Nat.le_of_ble_eq_true rfl⟩) hN hK hP hD hS hA rfl 0 rfl rfl rfl hl.1 rfl (Nat.le_of_ble_eq_true rfl) dX2_implies_24 ⟨Nat.zero_le _, Nat.zero_le _⟩ (fun H locs hP hD hS => ?_)
        refine lv_ldc2 (v := (-1)) hx hb hown kc88 dX2_implies_27 ?_
        refine lv_lxor hx hb dX2_implies_30 ?_
        refine lv_land hx hb dX2_implies_31 ?_
        refine lv_lconst (v := 0) hx hb dX2_implies_32 (by decide) ?_
        refine W.lcmp hx hb dX2_implies_33 ?_
        refine lv_if_eq (tgt := 39) hx hb dX2_implies_34 (by decide) (fun cz => ?_) (fun cz => ?_)
        · have h := g_t h (lg_cmp0.mp cz)
          refine lv_iinc (v := (v3 + (1 : Int32))) (lv' := [(3, .int ((v3 + (1 : Int32)))), (0, .ref (ad 0)), (1, .int v1), (2, .int v2)]) hx hb dX2_implies_39 hl (k := 3) rfl rfl (by decide) rfl (fun ls hl => ?_)
          refine lv_goto (tgt := 2) hx hb dX2_implies_42 (by decide) ?_
          exact ih v1 v2 ((v3 + (1 : Int32))) H locs ls h hP hD hS (lv_sub hl [1, 2, 3, 0] rfl)
        · have h := g_f h (fun z => cz (lg_cmp0.mpr z))
          refine lv_iconst (v := 0) hx hb dX2_implies_37 (by decide) ?_
          have h' := Option.some.inj h
          rw [← hQQ]
          exact W.zret (v := (0 : Int32)) hx hb hr rfl (fun t ht hW => ⟨⟨(0 : Int32), (), rfl, by rw [← h'], by rw [← hWQ, ht]; exact hP, va_K.moved hW.alike hK⟩, hS.F ht⟩) hS.2.2 dX2_implies_38
  intro H locs hP hD hS
  unfold f_K_implies at h
  refine lv_iconst (v := 0) hx hb dX2_implies_0 (by decide) ?_
  refine lv_istore_n (lv' := [(3, .int ((0 : Int32))), (0, .ref (ad 0)), (1, .int a1), (2, .int a2)]) hx hb dX2_implies_1 rfl hl (by decide) rfl (fun ls hl => ?_)
  exact B2 N a1 a2 ((0 : Int32)) H locs ls h hP hD hS (lv_sub hl [1, 2, 3, 0] rfl)
set_option maxHeartbeats 8000000 in
set_option maxRecDepth 100000 in
theorem c_X_standsUnder (l : Launch) (dC : Nat → ClassId) (dI : Nat → Nat → Nat) (cy : Nat → ClassId) (ad : Nat → Nat) (sz : Nat) (rb : Nat) (rc : Nat) (pb : Nat) (N : Nat) (a1 : Int32) (a2 : Int32) (iX : Nat → Int32) (iR : Nat → Int32) (iT : Nat → Int32) (wT : Int64) (tx : Nat → Int32) (iB : Nat → Int32) (lB : Nat → Nat → Int64) (aB : Nat → Nat → Int32) (iC : Nat → Int32) (aC : Nat → Nat → Int32) (iD : Nat → Int32) (lD : Nat → Nat → Int64) (aD : Nat → Nat → Int32) (iE : Nat → Int32) (aE : Nat → Nat → Int32) (iK : Nat → Int32) (lK : Nat → Nat → Int64) (aK : Nat → Nat → Int32) (iW : Nat → Int32) (aW : Nat → Nat → Int32) (iP : Nat → Int32) (aP : Nat → Nat → Int32) (q : Int32) (h : f_X_standsUnder N a1 a2 (iC 4) (aC 0) (aC 1) (aC 2) (lK 3) (lK 9) = some q) : Met l yX7_standsUnder wsX7_standsUnder ({ frames := 2, cells := 0, slots := 0, locals := 45 } : Room) (cP (dC, dI) cy [.ref (ad 0), .int a1, .int a2] (zzX ad cy rb rc (ad 4) (ad 11) pb (ad 4) (ad 20) iX iR iT wT tx iB lB aB iC aC iD lD aD iE aE iK lK aK iW aW iP aP) sz) (cQi (dC, dI) cy q (zzX ad cy rb rc (ad 4) (ad 11) pb (ad 4) (ad 20) iX iR iT wT tx iB lB aB iC aC iD lD aD iE aE iK lK aK iW aW iP aP) (va_A (zzX ad cy rb rc (ad 4) (ad 11) pb (ad 4) (ad 20) iX iR iT wT tx iB lB aB iC aC iD lD aD iE aE iK lK aK iW aW iP aP) sz)) 0 0 (va_A (zzX ad cy rb rc (ad 4) (ad 11) pb (ad 4) (ad 20) iX iR iT wT tx iB lB aB iC aC iD lD aD iE aE iK lK aK iW aW iP aP) sz) := by
  refine Met.ofW (cc := cX7_standsUnder) (maxL := 3) (ret := (some .boolean)) (by decide) rfl ?_
  intro p e s m args below meth c s₁ B hml hv
  obtain ⟨hav, hsz, hP, hK, hD0, hN⟩ := hv
  have hx := B.exec
  have hb := B.bytes
  have hr := B.returns
  have hts := atoms_spec (ws := wsX7_standsUnder) B.pre
  have hown : s.vm.findClass RX7 = some m.cls := findClass_of_methodNamed B.named
  have hlocks := B.notSynchronized
  subst hsz
  have hD := hD0.self (sz := s.heap.size)
  generalize hAe : va_A (zzX ad cy rb rc (ad 4) (ad 11) pb (ad 4) (ad 20) iX iR iT wT tx iB lB aB iC aC iD lD aD iE aE iK lK aK iW aW iP aP) s.heap.size = A at hD ⊢
  have hA : ∀ q : Nat, s.heap.size ≤ q → A q := fun q h => by rw [← hAe]; exact Or.inr h
  have hS : va_S A s.heap s.heap [] := va_S.rf
  generalize hWQ : (zzX ad cy rb rc (ad 4) (ad 11) pb (ad 4) (ad 20) iX iR iT wT tx iB lB aB iC aC iD lD aD iE aE iK lK aK iW aW iP aP) = WQ
  generalize hQQ : MQ below (cQi (dC, dI) cy q WQ A) args s 0 0 A = QQ
  have hl := lv_entry ([.ref (ad 0), .int a1, .int a2] : List Value) (n := 3) (Nat.le_of_ble_eq_true rfl)
  have hfr := lg_entry_eq m ([.ref (ad 0), .int a1, .int a2] : List Value) 3
  rw [← hav] at hfr
  rw [hfr]
  clear hfr hav
  generalize (lg_sl ([.ref (ad 0), .int a1, .int a2] : List Value) ++ List.replicate (3 - (lg_sl ([.ref (ad 0), .int a1, .int a2] : List Value)).length) Slot.unset).toArray = ls at hl ⊢
  have hl : lv_has ls 3 [(0, .ref (ad 0)), (1, .int a1), (2, .int a2)] := hl
  have kf37 := hts _ (List.mem_cons_of_mem _ m_fl_X7_37)
  have ki7 := (fun w h => List.mem_cons_of_mem _ (i_X7 w h) : ∀ w ∈ u_ws RX7 TX7 9, w ∈ wsX7_standsUnder)
  have kf16 := hts _ (List.mem_cons_of_mem _ m_fl_X7_16)
  have kf101 := hts _ (List.mem_cons_of_mem _ m_fl_X7_101)
  have ki0 := (fun w h => List.mem_cons_of_mem _ (i_X0 w h) : ∀ w ∈ u_ws RX0 TX0 15, w ∈ wsX7_standsUnder)
  refine (?_ : ∀ (H : Heap) (locs : List Loc), va_P (dC, dI) vwCl (zzX ad cy rb rc (ad 4) (ad 11) pb (ad 4) (ad 20) iX iR iT wT tx iB lB aB iC aC iD lD aD iE aE iK lK aK iW aW iP aP) H → va_D A (zzX ad cy rb rc (ad 4) (ad 11) pb (ad 4) (ad 20) iX iR iT wT tx iB lB aB iC aC iD lD aD iE aE iK lK aK iW aW iP aP) → va_S A s.heap H locs → W p l e ({ frames := 2, cells := 0, slots := 0, locals := 45 } : Room) s m args below meth c H locs 0 0 QQ (F0 m 0 ls [])) s.heap [] hP hD hS
  clear hP hD hS
  intro H locs hP hD hS
  unfold f_X_standsUnder at h
  refine lv_aload_n hx hb dX7_standsUnder_0 rfl (lv_at hl 0 rfl) ?_
  refine va_get (D := (dC, dI)) (ci := 7) (v := .ref (ad 36)) (C := RX7) (T := TX7) (N := 9) hx hb hts ki7 hown hK hP 0 rfl rfl 6 (by decide) kf37 (fun _ h9 => h9) rfl dX7_standsUnder_1 ?_
  refine lv_aload_n hx hb dX7_standsUnder_4 rfl (lv_at hl 0 rfl) ?_
  refine va_get (D := (dC, dI)) (ci := 7) (v := .ref (ad 4)) (C := RX7) (T := TX7) (N := 9) hx hb hts ki7 hown hK hP 0 rfl rfl 3 (by decide) kf16 (fun _ h9 => h9) rfl dX7_standsUnder_5 ?_
  refine va_get (D := (dC, dI)) (ci := 0) (v := .ref (ad 11)) (C := RX0) (T := TX0) (N := 15) hx hb hts ki0 hown hK hP 4 rfl rfl 0 (by decide) kf101 (fun _ h9 => h9) rfl dX7_standsUnder_8 ?_
  refine lv_iload_n hx hb dX7_standsUnder_11 rfl (lv_at hl 1 rfl) ?_
  obtain ⟨q12, e12, h⟩ := g_b h
  refine callVi (cc := cX7_standsUnder) (ws' := zzX ad cy rb rc (ad 4) (ad 11) pb (ad 4) (ad 20) iX iR iT wT tx iB lB aB iC aC iD lD aD iE aE iK lK aK iW aW iP aP) (As := [.int a1]) (rest := [.ref (ad 36)]) ⟨hx, hb, hml, hown, hts⟩ (c_C_nodeOfName l dC dI cy (fun i => ad (i + 11)) H.size N a1 iC aC q12 e12) (cwV 1 hts (goodV m_ml_X7_216 m_im_X1_nodeOfName m_se_X1_nodeOfName m_in_X1 m_cd_X1_nodeOfName) rfl rfl rfl (by decide +kernel) ⟨Nat.le_of_ble_eq_true rfl, Nat.le_of_ble_eq_true rfl⟩) hN hK hP hD hS hA [11, 12, 13, 14, 15, 16, 17, 18, 19] [none, none, none, none, none, none, none, none, none, none, none, some 0, some 1, some 2, some 3, some 4, some 5, some 6, some 7, some 8, none, none, none, none, none, none, none, none, none, none, none, none, none, none, none, none, none, none, none, none, none, none, none, none, none, none, none, none, none, none, none, none, none, none] rfl rfl rfl rfl rfl rfl 11 rfl rfl rfl hl.1 rfl (Nat.le_of_ble_eq_true rfl) dX7_standsUnder_12 ⟨Nat.zero_le _, Nat.zero_le _⟩ (fun H locs hP hD hS => ?_)
  refine lv_aload_n hx hb dX7_standsUnder_15 rfl (lv_at hl 0 rfl) ?_
  refine va_get (D := (dC, dI)) (ci := 7) (v := .ref (ad 4)) (C := RX7) (T := TX7) (N := 9) hx hb hts ki7 hown hK hP 0 rfl rfl 3 (by decide) kf16 (fun _ h9 => h9) rfl dX7_standsUnder_16 ?_
  refine va_get (D := (dC, dI)) (ci := 0) (v := .ref (ad 11)) (C := RX0) (T := TX0) (N := 15) hx hb hts ki0 hown hK hP 4 rfl rfl 0 (by decide) kf101 (fun _ h9 => h9) rfl dX7_standsUnder_19 ?_
  refine lv_iload_n hx hb dX7_standsUnder_22 rfl (lv_at hl 2 rfl) ?_
  obtain ⟨q23, e23, h⟩ := g_b h
  refine callVi (cc := cX7_standsUnder) (ws' := zzX ad cy rb rc (ad 4) (ad 11) pb (ad 4) (ad 20) iX iR iT wT tx iB lB aB iC aC iD lD aD iE aE iK lK aK iW aW iP aP) (As := [.int a2]) (rest := [.int q12, .ref (ad 36)]) ⟨hx, hb, hml, hown, hts⟩ (c_C_nodeOfName l dC dI cy (fun i => ad (i + 11)) H.size N a2 iC aC q23 e23) (cwV 1 hts (goodV m_ml_X7_216 m_im_X1_nodeOfName m_se_X1_nodeOfName m_in_X1 m_cd_X1_nodeOfName) rfl rfl rfl (by decide +kernel) ⟨Nat.le_of_ble_eq_true rfl, Nat.le_of_ble_eq_true rfl⟩) hN hK hP hD hS hA [11, 12, 13, 14, 15, 16, 17, 18, 19] [none, none, none, none, none, none, none, none, none, none, none, some 0, some 1, some 2, some 3, some 4, some 5, some 6, some 7, some 8, none, none, none, none, none, none, none, none, none, none, none, none, none, none, none, none, none, none, none, none, none, none, none, none, none, none, none, none, none, none, none, none, none, none] rfl rfl rfl rfl rfl rfl 11 rfl rfl rfl hl.1 rfl (Nat.le_of_ble_eq_true rfl) dX7_standsUnder_23 ⟨Nat.zero_le _, Nat.zero_le _⟩ (fun H locs hP hD hS => ?_)
  obtain ⟨q26, e26, h⟩ := g_b h
  refine callVi (cc := cX7_standsUnder) (ws' := zzX ad cy rb rc (ad 4) (ad 11) pb (ad 4) (ad 20) iX iR iT wT tx iB lB aB iC aC iD lD aD iE aE iK lK aK iW aW iP aP) (As := [.int q12, .int q23]) (rest := []) ⟨hx, hb, hml, hown, hts⟩ (c_K_implies l dC dI cy (fun i => ad (([36, 37, 38, 39, 40, 41, 42, 43, 44, 45, 46, 4, 5, 6, 7, 8, 9, 10, 11, 12, 13, 14, 15, 16, 17, 18, 19] : List Nat).getD i 0)) H.size N q12 q23 iK lK aK iB lB aB iC aC q26 e26) (cwV 2 hts (goodV m_ml_X7_219 m_im_X2_implies m_se_X2_implies m_in_X2 m_cd_X2_implies) rfl rfl rfl (by decide +kernel) ⟨Nat.le_of_ble_eq_true rfl, Nat.le_of_ble_eq_true rfl⟩) hN hK hP hD hS hA [36, 37, 38, 39, 40, 41, 42, 43, 44, 45, 46, 4, 5, 6, 7, 8, 9, 10, 11, 12, 13, 14, 15, 16, 17, 18, 19] [none, none, none, none, some 11, some 12, some 13, some 14, some 15, some 16, some 17, some 18, some 19, some 20, some 21, some 22, some 23, some 24, some 25, some 26, none, none, none, none, none, none, none, none, none, none, none, none, none, none, none, none, some 0, some 1, some 2, some 3, some 4, some 5, some 6, some 7, some 8, some 9, some 10, none, none, none, none, none, none, none] rfl rfl rfl rfl rfl rfl 36 rfl rfl rfl hl.1 rfl (Nat.le_of_ble_eq_true rfl) dX7_standsUnder_26 ⟨Nat.zero_le _, Nat.zero_le _⟩ (fun H locs hP hD hS => ?_)
  obtain ⟨gz, h⟩ := g_p h
  have h' := Option.some.inj h
  rw [← hQQ]
  exact W.zret (v := q26) hx hb hr (g_zr _ gz) (fun t ht hW => ⟨⟨q26, (), rfl, by rw [← h'], by rw [← hWQ, ht]; exact hP, va_K.moved hW.alike hK⟩, hS.F ht⟩) hS.2.2 dX7_standsUnder_29
set_option maxHeartbeats 8000000 in
set_option maxRecDepth 100000 in
theorem c_X_isUnder (l : Launch) (dC : Nat → ClassId) (dI : Nat → Nat → Nat) (cy : Nat → ClassId) (ad : Nat → Nat) (sz : Nat) (rb : Nat) (rc : Nat) (pb : Nat) (N : Nat) (a1 : Int32) (a2 : Int32) (iX : Nat → Int32) (iR : Nat → Int32) (iT : Nat → Int32) (wT : Int64) (tx : Nat → Int32) (iB : Nat → Int32) (lB : Nat → Nat → Int64) (aB : Nat → Nat → Int32) (iC : Nat → Int32) (aC : Nat → Nat → Int32) (iD : Nat → Int32) (lD : Nat → Nat → Int64) (aD : Nat → Nat → Int32) (iE : Nat → Int32) (aE : Nat → Nat → Int32) (iK : Nat → Int32) (lK : Nat → Nat → Int64) (aK : Nat → Nat → Int32) (iW : Nat → Int32) (aW : Nat → Nat → Int32) (iP : Nat → Int32) (aP : Nat → Nat → Int32) (q : Int32) (h : f_X_isUnder N a1 a2 (iX 5) (iB 3) (iC 4) (aC 0) (aC 1) (aC 2) (lK 3) (lK 9) = some q) : Met l yX7_isUnder wsX7_isUnder ({ frames := 3, cells := 0, slots := 0, locals := 67 } : Room) (cP (dC, dI) cy [.ref (ad 0), .int a1, .int a2] (zzX ad cy rb rc (ad 4) (ad 11) pb (ad 4) (ad 20) iX iR iT wT tx iB lB aB iC aC iD lD aD iE aE iK lK aK iW aW iP aP) sz) (cQi (dC, dI) cy q (zzX ad cy rb rc (ad 4) (ad 11) pb (ad 4) (ad 20) iX iR iT wT tx iB lB aB iC aC iD lD aD iE aE iK lK aK iW aW iP aP) (va_A (zzX ad cy rb rc (ad 4) (ad 11) pb (ad 4) (ad 20) iX iR iT wT tx iB lB aB iC aC iD lD aD iE aE iK lK aK iW aW iP aP) sz)) 0 0 (va_A (zzX ad cy rb rc (ad 4) (ad 11) pb (ad 4) (ad 20) iX iR iT wT tx iB lB aB iC aC iD lD aD iE aE iK lK aK iW aW iP aP) sz) := by
  refine Met.ofW (cc := cX7_isUnder) (maxL := 3) (ret := (some .int)) (by decide) rfl ?_
  intro p e s m args below meth c s₁ B hml hv
  obtain ⟨hav, hsz, hP, hK, hD0, hN⟩ := hv
  have hx := B.exec
  have hb := B.bytes
  have hr := B.returns
  have hts := atoms_spec (ws := wsX7_isUnder) B.pre
  have hown : s.vm.findClass RX7 = some m.cls := findClass_of_methodNamed B.named
  have hlocks := B.notSynchronized
  subst hsz
  have hD := hD0.self (sz := s.heap.size)
  generalize hAe : va_A (zzX ad cy rb rc (ad 4) (ad 11) pb (ad 4) (ad 20) iX iR iT wT tx iB lB aB iC aC iD lD aD iE aE iK lK aK iW aW iP aP) s.heap.size = A at hD ⊢
  have hA : ∀ q : Nat, s.heap.size ≤ q → A q := fun q h => by rw [← hAe]; exact Or.inr h
  have hS : va_S A s.heap s.heap [] := va_S.rf
  generalize hWQ : (zzX ad cy rb rc (ad 4) (ad 11) pb (ad 4) (ad 20) iX iR iT wT tx iB lB aB iC aC iD lD aD iE aE iK lK aK iW aW iP aP) = WQ
  generalize hQQ : MQ below (cQi (dC, dI) cy q WQ A) args s 0 0 A = QQ
  have hl := lv_entry ([.ref (ad 0), .int a1, .int a2] : List Value) (n := 3) (Nat.le_of_ble_eq_true rfl)
  have hfr := lg_entry_eq m ([.ref (ad 0), .int a1, .int a2] : List Value) 3
  rw [← hav] at hfr
  rw [hfr]
  clear hfr hav
  generalize (lg_sl ([.ref (ad 0), .int a1, .int a2] : List Value) ++ List.replicate (3 - (lg_sl ([.ref (ad 0), .int a1, .int a2] : List Value)).length) Slot.unset).toArray = ls at hl ⊢
  have hl : lv_has ls 3 [(0, .ref (ad 0)), (1, .int a1), (2, .int a2)] := hl
  have kf70 := hts _ (List.mem_cons_of_mem _ m_fl_X7_70)
  have ki7 := (fun w h => List.mem_cons_of_mem _ (i_X7 w h) : ∀ w ∈ u_ws RX7 TX7 9, w ∈ wsX7_isUnder)
  refine (?_ : ∀ (H : Heap) (locs : List Loc), va_P (dC, dI) vwCl (zzX ad cy rb rc (ad 4) (ad 11) pb (ad 4) (ad 20) iX iR iT wT tx iB lB aB iC aC iD lD aD iE aE iK lK aK iW aW iP aP) H → va_D A (zzX ad cy rb rc (ad 4) (ad 11) pb (ad 4) (ad 20) iX iR iT wT tx iB lB aB iC aC iD lD aD iE aE iK lK aK iW aW iP aP) → va_S A s.heap H locs → W p l e ({ frames := 3, cells := 0, slots := 0, locals := 67 } : Room) s m args below meth c H locs 0 0 QQ (F0 m 0 ls [])) s.heap [] hP hD hS
  clear hP hD hS
  intro H locs hP hD hS
  unfold f_X_isUnder at h
  refine lv_aload_n hx hb dX7_isUnder_0 rfl (lv_at hl 0 rfl) ?_
  refine va_get (D := (dC, dI)) (ci := 7) (v := .int (iX 5)) (C := RX7) (T := TX7) (N := 9) hx hb hts ki7 hown hK hP 0 rfl rfl 5 (by decide) kf70 (fun _ h9 => h9) rfl dX7_isUnder_1 ?_
  refine lv_if_ne (tgt := 10) hx hb dX7_isUnder_4 (by decide) (fun cz => ?_) (fun cz => ?_)
  · have h := g_f h cz
    refine lv_aload_n hx hb dX7_isUnder_10 rfl (lv_at hl 0 rfl) ?_
    refine lv_iload_n hx hb dX7_isUnder_11 rfl (lv_at hl 1 rfl) ?_
    obtain ⟨q12, e12, h⟩ := g_b h
    refine callVis (cc := cX7_isUnder) (w1 := zzX ad cy rb rc (ad 4) (ad 11) pb (ad 4) (ad 20) iX iR iT wT tx iB lB aB iC aC iD lD aD iE aE iK lK aK iW aW iP aP) (As := [.int a1]) (rest := []) ⟨hx, hb, hml, hown, hts⟩ (c_X_isName l dC dI cy ad H.size rb rc pb a1 iX iR iT wT tx iB lB aB iC aC iD lD aD iE aE iK lK aK iW aW iP aP q12 e12) (cwV 1 hts (goodV m_ml_X7_166 m_im_X7_isName m_se_X7_isName m_in_X7 m_cd_X7_isName) rfl rfl rfl (by decide +kernel) ⟨Nat.le_of_ble_eq_true rfl, Nat.le_of_ble_eq_true rfl⟩) hN hK hP hD hS hA rfl 0 rfl rfl rfl hl.1 rfl (Nat.le_of_ble_eq_true rfl) dX7_isUnder_12 ⟨Nat.zero_le _, Nat.zero_le _⟩ (fun H locs hP hD hS => ?_)
    refine lv_if_eq (tgt := 26) hx hb dX7_isUnder_15 (by decide) (fun cz => ?_) (fun cz => ?_)
    · have h := g_t h cz
      refine lv_bipush (v := (-102)) hx hb dX7_isUnder_26 (by decide) ?_
      have h' := Option.some.inj h
      rw [← hQQ]
      exact W.iret (v := (-102 : Int32)) hx hb hr (fun t ht hW => ⟨⟨(-102 : Int32), (), rfl, by rw [← h'], by rw [← hWQ, ht]; exact hP, va_K.moved hW.alike hK⟩, hS.F ht⟩) hS.2.2 dX7_isUnder_28
    · have h := g_f h cz
      refine lv_aload_n hx hb dX7_isUnder_18 rfl (lv_at hl 0 rfl) ?_
      refine lv_iload_n hx hb dX7_isUnder_19 rfl (lv_at hl 2 rfl) ?_
      obtain ⟨q20, e20, h⟩ := g_b h
      refine callVis (cc := cX7_isUnder) (w1 := zzX ad cy rb rc (ad 4) (ad 11) pb (ad 4) (ad 20) iX iR iT wT tx iB lB aB iC aC iD lD aD iE aE iK lK aK iW aW iP aP) (As := [.int a2]) (rest := []) ⟨hx, hb, hml, hown, hts⟩ (c_X_isName l dC dI cy ad H.size rb rc pb a2 iX iR iT wT tx iB lB aB iC aC iD lD aD iE aE iK lK aK iW aW iP aP q20 e20) (cwV 1 hts (goodV m_ml_X7_166 m_im_X7_isName m_se_X7_isName m_in_X7 m_cd_X7_isName) rfl rfl rfl (by decide +kernel) ⟨Nat.le_of_ble_eq_true rfl, Nat.le_of_ble_eq_true rfl⟩) hN hK hP hD hS hA rfl 0 rfl rfl rfl hl.1 rfl (Nat.le_of_ble_eq_true rfl) dX7_isUnder_20 ⟨Nat.zero_le _, Nat.zero_le _⟩ (fun H locs hP hD hS => ?_)
      refine lv_if_ne (tgt := 29) hx hb dX7_isUnder_23 (by decide) (fun cz => ?_) (fun cz => ?_)
      · have h := g_f h cz
        refine lv_aload_n hx hb dX7_isUnder_29 rfl (lv_at hl 0 rfl) ?_
        refine lv_iload_n hx hb dX7_isUnder_30 rfl (lv_at hl 1 rfl) ?_
        refine lv_iload_n hx hb dX7_isUnder_31 rfl (lv_at hl 2 rfl) ?_
        obtain ⟨q32, e32, h⟩ := g_b h
        refine callVis (cc := cX7_isUnder) (w1 := zzX ad cy rb rc (ad 4) (ad 11) pb (ad 4) (ad 20) iX iR iT wT tx iB lB aB iC aC iD lD aD iE aE iK lK aK iW aW iP aP) (As := [.int a1, .int a2]) (rest := []) ⟨hx, hb, hml, hown, hts⟩ (c_X_standsUnder l dC dI cy ad H.size rb rc pb N a1 a2 iX iR iT wT tx iB lB aB iC aC iD lD aD iE aE iK lK aK iW aW iP aP q32 e32) (cwV 2 hts (goodV m_ml_X7_169 m_im_X7_standsUnder m_se_X7_standsUnder m_in_X7 m_cd_X7_standsUnder) rfl rfl rfl (by decide +kernel) ⟨Nat.le_of_ble_eq_true rfl, Nat.le_of_ble_eq_true rfl⟩) hN hK hP hD hS hA rfl 0 rfl rfl rfl hl.1 rfl (Nat.le_of_ble_eq_true rfl) dX7_isUnder_32 ⟨Nat.zero_le _, Nat.zero_le _⟩ (fun H locs hP hD hS => ?_)
        obtain ⟨q35, e35, h⟩ := g_b h
        refine callSi (cc := cX7_isUnder) (ws' := zzX ad cy rb rc (ad 4) (ad 11) pb (ad 4) (ad 20) iX iR iT wT tx iB lB aB iC aC iD lD aD iE aE iK lK aK iW aW iP aP) (As := [.int q32]) (rest := []) ⟨hx, hb, hml, hown, hts⟩ (c_X_oneIf l dC dI cy ad H.size q32 q35 e35) (va_cwS 1 hts (goodS m_ml_X7_148 m_st_X7_oneIf m_in_X7 m_cd_X7_oneIf) rfl rfl rfl (by decide +kernel) ⟨Nat.le_of_ble_eq_true rfl, Nat.le_of_ble_eq_true rfl⟩) hN hK hP hD hS hA [] [none, none, none, none, none, none, none, none, none, none, none, none, none, none, none, none, none, none, none, none, none, none, none, none, none, none, none, none, none, none, none, none, none, none, none, none, none, none, none, none, none, none, none, none, none, none, none, none, none, none, none, none, none, none] rfl rfl rfl rfl rfl rfl rfl hl.1 rfl (Nat.le_of_ble_eq_true rfl) dX7_isUnder_35 ⟨Nat.zero_le _, Nat.zero_le _⟩ (fun H locs hP hD hS => ?_)
        have h' := Option.some.inj h
        rw [← hQQ]
        exact W.iret (v := q35) hx hb hr (fun t ht hW => ⟨⟨q35, (), rfl, by rw [← h'], by rw [← hWQ, ht]; exact hP, va_K.moved hW.alike hK⟩, hS.F ht⟩) hS.2.2 dX7_isUnder_38
      · have h := g_t h cz
        refine lv_bipush (v := (-102)) hx hb dX7_isUnder_26 (by decide) ?_
        have h' := Option.some.inj h
        rw [← hQQ]
        exact W.iret (v := (-102 : Int32)) hx hb hr (fun t ht hW => ⟨⟨(-102 : Int32), (), rfl, by rw [← h'], by rw [← hWQ, ht]; exact hP, va_K.moved hW.alike hK⟩, hS.F ht⟩) hS.2.2 dX7_isUnder_28
  · have h := g_t h cz
    refine lv_bipush (v := (-101)) hx hb dX7_isUnder_7 (by decide) ?_
    have h' := Option.some.inj h
    rw [← hQQ]
    exact W.iret (v := (-101 : Int32)) hx hb hr (fun t ht hW => ⟨⟨(-101 : Int32), (), rfl, by rw [← h'], by rw [← hWQ, ht]; exact hP, va_K.moved hW.alike hK⟩, hS.F ht⟩) hS.2.2 dX7_isUnder_9
set_option maxHeartbeats 8000000 in
set_option maxRecDepth 100000 in
theorem c_X_isStrictlyUnder (l : Launch) (dC : Nat → ClassId) (dI : Nat → Nat → Nat) (cy : Nat → ClassId) (ad : Nat → Nat) (sz : Nat) (rb : Nat) (rc : Nat) (pb : Nat) (N : Nat) (a1 : Int32) (a2 : Int32) (iX : Nat → Int32) (iR : Nat → Int32) (iT : Nat → Int32) (wT : Int64) (tx : Nat → Int32) (iB : Nat → Int32) (lB : Nat → Nat → Int64) (aB : Nat → Nat → Int32) (iC : Nat → Int32) (aC : Nat → Nat → Int32) (iD : Nat → Int32) (lD : Nat → Nat → Int64) (aD : Nat → Nat → Int32) (iE : Nat → Int32) (aE : Nat → Nat → Int32) (iK : Nat → Int32) (lK : Nat → Nat → Int64) (aK : Nat → Nat → Int32) (iW : Nat → Int32) (aW : Nat → Nat → Int32) (iP : Nat → Int32) (aP : Nat → Nat → Int32) (q : Int32) (h : f_X_isStrictlyUnder N a1 a2 (iC 4) (aC 0) (aC 1) (aC 2) (lK 3) (lK 9) = some q) : Met l yX7_isStrictlyUnder wsX7_isStrictlyUnder ({ frames := 3, cells := 0, slots := 0, locals := 67 } : Room) (cP (dC, dI) cy [.ref (ad 0), .int a1, .int a2] (zzX ad cy rb rc (ad 4) (ad 11) pb (ad 4) (ad 20) iX iR iT wT tx iB lB aB iC aC iD lD aD iE aE iK lK aK iW aW iP aP) sz) (cQi (dC, dI) cy q (zzX ad cy rb rc (ad 4) (ad 11) pb (ad 4) (ad 20) iX iR iT wT tx iB lB aB iC aC iD lD aD iE aE iK lK aK iW aW iP aP) (va_A (zzX ad cy rb rc (ad 4) (ad 11) pb (ad 4) (ad 20) iX iR iT wT tx iB lB aB iC aC iD lD aD iE aE iK lK aK iW aW iP aP) sz)) 0 0 (va_A (zzX ad cy rb rc (ad 4) (ad 11) pb (ad 4) (ad 20) iX iR iT wT tx iB lB aB iC aC iD lD aD iE aE iK lK aK iW aW iP aP) sz) := by
  refine Met.ofW (cc := cX7_isStrictlyUnder) (maxL := 3) (ret := (some .boolean)) (by decide) rfl ?_
  intro p e s m args below meth c s₁ B hml hv
  obtain ⟨hav, hsz, hP, hK, hD0, hN⟩ := hv
  have hx := B.exec
  have hb := B.bytes
  have hr := B.returns
  have hts := atoms_spec (ws := wsX7_isStrictlyUnder) B.pre
  have hown : s.vm.findClass RX7 = some m.cls := findClass_of_methodNamed B.named
  have hlocks := B.notSynchronized
  subst hsz
  have hD := hD0.self (sz := s.heap.size)
  generalize hAe : va_A (zzX ad cy rb rc (ad 4) (ad 11) pb (ad 4) (ad 20) iX iR iT wT tx iB lB aB iC aC iD lD aD iE aE iK lK aK iW aW iP aP) s.heap.size = A at hD ⊢
  have hA : ∀ q : Nat, s.heap.size ≤ q → A q := fun q h => by rw [← hAe]; exact Or.inr h
  have hS : va_S A s.heap s.heap [] := va_S.rf
  generalize hWQ : (zzX ad cy rb rc (ad 4) (ad 11) pb (ad 4) (ad 20) iX iR iT wT tx iB lB aB iC aC iD lD aD iE aE iK lK aK iW aW iP aP) = WQ
  generalize hQQ : MQ below (cQi (dC, dI) cy q WQ A) args s 0 0 A = QQ
  have hl := lv_entry ([.ref (ad 0), .int a1, .int a2] : List Value) (n := 3) (Nat.le_of_ble_eq_true rfl)
  have hfr := lg_entry_eq m ([.ref (ad 0), .int a1, .int a2] : List Value) 3
  rw [← hav] at hfr
  rw [hfr]
  clear hfr hav
  generalize (lg_sl ([.ref (ad 0), .int a1, .int a2] : List Value) ++ List.replicate (3 - (lg_sl ([.ref (ad 0), .int a1, .int a2] : List Value)).length) Slot.unset).toArray = ls at hl ⊢
  have hl : lv_has ls 3 [(0, .ref (ad 0)), (1, .int a1), (2, .int a2)] := hl
  refine (?_ : ∀ (H : Heap) (locs : List Loc), va_P (dC, dI) vwCl (zzX ad cy rb rc (ad 4) (ad 11) pb (ad 4) (ad 20) iX iR iT wT tx iB lB aB iC aC iD lD aD iE aE iK lK aK iW aW iP aP) H → va_D A (zzX ad cy rb rc (ad 4) (ad 11) pb (ad 4) (ad 20) iX iR iT wT tx iB lB aB iC aC iD lD aD iE aE iK lK aK iW aW iP aP) → va_S A s.heap H locs → W p l e ({ frames := 3, cells := 0, slots := 0, locals := 67 } : Room) s m args below meth c H locs 0 0 QQ (F0 m 0 ls [])) s.heap [] hP hD hS
  clear hP hD hS
  intro H locs hP hD hS
  unfold f_X_isStrictlyUnder at h
  refine lv_aload_n hx hb dX7_isStrictlyUnder_0 rfl (lv_at hl 0 rfl) ?_
  refine lv_iload_n hx hb dX7_isStrictlyUnder_1 rfl (lv_at hl 1 rfl) ?_
  refine lv_iload_n hx hb dX7_isStrictlyUnder_2 rfl (lv_at hl 2 rfl) ?_
  obtain ⟨q3, e3, h⟩ := g_b h
  refine callVis (cc := cX7_isStrictlyUnder) (w1 := zzX ad cy rb rc (ad 4) (ad 11) pb (ad 4) (ad 20) iX iR iT wT tx iB lB aB iC aC iD lD aD iE aE iK lK aK iW aW iP aP) (As := [.int a1, .int a2]) (rest := []) ⟨hx, hb, hml, hown, hts⟩ (c_X_standsUnder l dC dI cy ad H.size rb rc pb N a1 a2 iX iR iT wT tx iB lB aB iC aC iD lD aD iE aE iK lK aK iW aW iP aP q3 e3) (cwV 2 hts (goodV m_ml_X7_169 m_im_X7_standsUnder m_se_X7_standsUnder m_in_X7 m_cd_X7_standsUnder) rfl rfl rfl (by decide +kernel) ⟨Nat.le_of_ble_eq_true rfl, Nat.le_of_ble_eq_true rfl⟩) hN hK hP hD hS hA rfl 0 rfl rfl rfl hl.1 rfl (Nat.le_of_ble_eq_true rfl) dX7_isStrictlyUnder_3 ⟨Nat.zero_le _, Nat.zero_le _⟩ (fun H locs hP hD hS => ?_)
  refine lv_if_eq (tgt := 22) hx hb dX7_isStrictlyUnder_6 (by decide) (fun cz => ?_) (fun cz => ?_)
  · have h := g_t h cz
    refine lv_iconst (v := 0) hx hb dX7_isStrictlyUnder_22 (by decide) ?_
    have h' := Option.some.inj h
    rw [← hQQ]
    exact W.zret (v := (0 : Int32)) hx hb hr rfl (fun t ht hW => ⟨⟨(0 : Int32), (), rfl, by rw [← h'], by rw [← hWQ, ht]; exact hP, va_K.moved hW.alike hK⟩, hS.F ht⟩) hS.2.2 dX7_isStrictlyUnder_23
  · have h := g_f h cz
    refine lv_aload_n hx hb dX7_isStrictlyUnder_9 rfl (lv_at hl 0 rfl) ?_
    refine lv_iload_n hx hb dX7_isStrictlyUnder_10 rfl (lv_at hl 2 rfl) ?_
    refine lv_iload_n hx hb dX7_isStrictlyUnder_11 rfl (lv_at hl 1 rfl) ?_
    obtain ⟨q12, e12, h⟩ := g_b h
    refine callVis (cc := cX7_isStrictlyUnder) (w1 := zzX ad cy rb rc (ad 4) (ad 11) pb (ad 4) (ad 20) iX iR iT wT tx iB lB aB iC aC iD lD aD iE aE iK lK aK iW aW iP aP) (As := [.int a2, .int a1]) (rest := []) ⟨hx, hb, hml, hown, hts⟩ (c_X_standsUnder l dC dI cy ad H.size rb rc pb N a2 a1 iX iR iT wT tx iB lB aB iC aC iD lD aD iE aE iK lK aK iW aW iP aP q12 e12) (cwV 2 hts (goodV m_ml_X7_169 m_im_X7_standsUnder m_se_X7_standsUnder m_in_X7 m_cd_X7_standsUnder) rfl rfl rfl (by decide +kernel) ⟨Nat.le_of_ble_eq_true rfl, Nat.le_of_ble_eq_true rfl⟩) hN hK hP hD hS hA rfl 0 rfl rfl rfl hl.1 rfl (Nat.le_of_ble_eq_true rfl) dX7_isStrictlyUnder_12 ⟨Nat.zero_le _, Nat.zero_le _⟩ (fun H locs hP hD hS => ?_)
    refine lv_if_ne (tgt := 22) hx hb dX7_isStrictlyUnder_15 (by decide) (fun cz => ?_) (fun cz => ?_)
    · have h := g_f h cz
      refine lv_iconst (v := 0) hx hb dX7_isStrictlyUnder_22 (by decide) ?_
      have h' := Option.some.inj h
      rw [← hQQ]
      exact W.zret (v := (0 : Int32)) hx hb hr rfl (fun t ht hW => ⟨⟨(0 : Int32), (), rfl, by rw [← h'], by rw [← hWQ, ht]; exact hP, va_K.moved hW.alike hK⟩, hS.F ht⟩) hS.2.2 dX7_isStrictlyUnder_23
    · have h := g_t h cz
      refine lv_iconst (v := 1) hx hb dX7_isStrictlyUnder_18 (by decide) ?_
      refine lv_goto (tgt := 23) hx hb dX7_isStrictlyUnder_19 (by decide) ?_
      have h' := Option.some.inj h
      rw [← hQQ]
      exact W.zret (v := (1 : Int32)) hx hb hr rfl (fun t ht hW => ⟨⟨(1 : Int32), (), rfl, by rw [← h'], by rw [← hWQ, ht]; exact hP, va_K.moved hW.alike hK⟩, hS.F ht⟩) hS.2.2 dX7_isStrictlyUnder_23
set_option maxHeartbeats 8000000 in
set_option maxRecDepth 100000 in
theorem c_X_isNextAbove (l : Launch) (dC : Nat → ClassId) (dI : Nat → Nat → Nat) (cy : Nat → ClassId) (ad : Nat → Nat) (sz : Nat) (rb : Nat) (rc : Nat) (pb : Nat) (N : Nat) (a1 : Int32) (a2 : Int32) (iX : Nat → Int32) (iR : Nat → Int32) (iT : Nat → Int32) (wT : Int64) (tx : Nat → Int32) (iB : Nat → Int32) (lB : Nat → Nat → Int64) (aB : Nat → Nat → Int32) (iC : Nat → Int32) (aC : Nat → Nat → Int32) (iD : Nat → Int32) (lD : Nat → Nat → Int64) (aD : Nat → Nat → Int32) (iE : Nat → Int32) (aE : Nat → Nat → Int32) (iK : Nat → Int32) (lK : Nat → Nat → Int64) (aK : Nat → Nat → Int32) (iW : Nat → Int32) (aW : Nat → Nat → Int32) (iP : Nat → Int32) (aP : Nat → Nat → Int32) (q : Int32) (h : f_X_isNextAbove N a1 a2 (iB 3) (iC 4) (aC 0) (aC 1) (aC 2) (lK 3) (lK 9) = some q) : Met l yX7_isNextAbove wsX7_isNextAbove ({ frames := 4, cells := 0, slots := 0, locals := 89 } : Room) (cP (dC, dI) cy [.ref (ad 0), .int a1, .int a2] (zzX ad cy rb rc (ad 4) (ad 11) pb (ad 4) (ad 20) iX iR iT wT tx iB lB aB iC aC iD lD aD iE aE iK lK aK iW aW iP aP) sz) (cQi (dC, dI) cy q (zzX ad cy rb rc (ad 4) (ad 11) pb (ad 4) (ad 20) iX iR iT wT tx iB lB aB iC aC iD lD aD iE aE iK lK aK iW aW iP aP) (va_A (zzX ad cy rb rc (ad 4) (ad 11) pb (ad 4) (ad 20) iX iR iT wT tx iB lB aB iC aC iD lD aD iE aE iK lK aK iW aW iP aP) sz)) 0 0 (va_A (zzX ad cy rb rc (ad 4) (ad 11) pb (ad 4) (ad 20) iX iR iT wT tx iB lB aB iC aC iD lD aD iE aE iK lK aK iW aW iP aP) sz) := by
  refine Met.ofW (cc := cX7_isNextAbove) (maxL := 4) (ret := (some .boolean)) (by decide) rfl ?_
  intro p e s m args below meth c s₁ B hml hv
  obtain ⟨hav, hsz, hP, hK, hD0, hN⟩ := hv
  have hx := B.exec
  have hb := B.bytes
  have hr := B.returns
  have hts := atoms_spec (ws := wsX7_isNextAbove) B.pre
  have hown : s.vm.findClass RX7 = some m.cls := findClass_of_methodNamed B.named
  have hlocks := B.notSynchronized
  subst hsz
  have hD := hD0.self (sz := s.heap.size)
  generalize hAe : va_A (zzX ad cy rb rc (ad 4) (ad 11) pb (ad 4) (ad 20) iX iR iT wT tx iB lB aB iC aC iD lD aD iE aE iK lK aK iW aW iP aP) s.heap.size = A at hD ⊢
  have hA : ∀ q : Nat, s.heap.size ≤ q → A q := fun q h => by rw [← hAe]; exact Or.inr h
  have hS : va_S A s.heap s.heap [] := va_S.rf
  generalize hWQ : (zzX ad cy rb rc (ad 4) (ad 11) pb (ad 4) (ad 20) iX iR iT wT tx iB lB aB iC aC iD lD aD iE aE iK lK aK iW aW iP aP) = WQ
  generalize hQQ : MQ below (cQi (dC, dI) cy q WQ A) args s 0 0 A = QQ
  have hl := lv_entry ([.ref (ad 0), .int a1, .int a2] : List Value) (n := 4) (Nat.le_of_ble_eq_true rfl)
  have hfr := lg_entry_eq m ([.ref (ad 0), .int a1, .int a2] : List Value) 4
  rw [← hav] at hfr
  rw [hfr]
  clear hfr hav
  generalize (lg_sl ([.ref (ad 0), .int a1, .int a2] : List Value) ++ List.replicate (4 - (lg_sl ([.ref (ad 0), .int a1, .int a2] : List Value)).length) Slot.unset).toArray = ls at hl ⊢
  have hl : lv_has ls 4 [(0, .ref (ad 0)), (1, .int a1), (2, .int a2)] := hl
  have kf16 := hts _ (List.mem_cons_of_mem _ m_fl_X7_16)
  have ki7 := (fun w h => List.mem_cons_of_mem _ (i_X7 w h) : ∀ w ∈ u_ws RX7 TX7 9, w ∈ wsX7_isNextAbove)
  have kf89 := hts _ (List.mem_cons_of_mem _ m_fl_X7_89)
  have ki0 := (fun w h => List.mem_cons_of_mem _ (i_X0 w h) : ∀ w ∈ u_ws RX0 TX0 15, w ∈ wsX7_isNextAbove)
  refine (?_ : ∀ (H : Heap) (locs : List Loc), va_P (dC, dI) vwCl (zzX ad cy rb rc (ad 4) (ad 11) pb (ad 4) (ad 20) iX iR iT wT tx iB lB aB iC aC iD lD aD iE aE iK lK aK iW aW iP aP) H → va_D A (zzX ad cy rb rc (ad 4) (ad 11) pb (ad 4) (ad 20) iX iR iT wT tx iB lB aB iC aC iD lD aD iE aE iK lK aK iW aW iP aP) → va_S A s.heap H locs → W p l e ({ frames := 4, cells := 0, slots := 0, locals := 89 } : Room) s m args below meth c H locs 0 0 QQ (F0 m 0 ls [])) s.heap [] hP hD hS
  clear hP hD hS
  have B13 : ∀ (n : Nat) (v1 : Int32) (v2 : Int32) (v3 : Int32) (H : Heap) (locs : List Loc) (ls : Array Slot), f_X_isNextAbove_13 N (iB 3) (iC 4) (aC 0) (aC 1) (aC 2) (lK 3) (lK 9) v1 v2 n v3 = some q → va_P (dC, dI) vwCl (zzX ad cy rb rc (ad 4) (ad 11) pb (ad 4) (ad 20) iX iR iT wT tx iB lB aB iC aC iD lD aD iE aE iK lK aK iW aW iP aP) H → va_D A (zzX ad cy rb rc (ad 4) (ad 11) pb (ad 4) (ad 20) iX iR iT wT tx iB lB aB iC aC iD lD aD iE aE iK lK aK iW aW iP aP) → va_S A s.heap H locs → lv_has ls 4 [(0, .ref (ad 0)), (1, .int v1), (2, .int v2), (3, .int v3)] → W p l e ({ frames := 4, cells := 0, slots := 0, locals := 89 } : Room) s m args below meth c H locs 0 0 QQ (F0 m 13 ls []) := by
    intro n
    induction n with
    | zero =>
      intro v1 v2 v3 H locs ls h hP hD hS hl
      rw [f_X_isNextAbove_13] at h
      cases h
    | succ n ih =>
      intro v1 v2 v3 H locs ls h hP hD hS hl
      rw [f_X_isNextAbove_13] at h
      refine lv_iload_n hx hb dX7_isNextAbove_13 rfl (lv_at hl 3 rfl) ?_
      refine lv_aload_n hx hb dX7_isNextAbove_14 rfl (lv_at hl 0 rfl) ?_
      refine va_get (D := (dC, dI)) (ci := 7) (v := .ref (ad 4)) (C := RX7) (T := TX7) (N := 9) hx hb hts ki7 hown hK hP 0 rfl rfl 3 (by decide) kf16 (fun _ h9 => h9) rfl dX7_isNextAbove_15 ?_
      refine va_get (D := (dC, dI)) (ci := 0) (v := .int (iB 3)) (C := RX0) (T := TX0) (N := 15) hx hb hts ki0 hown hK hP 4 rfl rfl 3 (by decide) kf89 (fun _ h9 => h9) rfl dX7_isNextAbove_18 ?_
      refine lv_icmp_ge (tgt := 50) hx hb dX7_isNextAbove_21 (by decide) (fun cz => ?_) (fun cz => ?_)
      · have h := g_t h cz
        refine lv_iconst (v := 1) hx hb dX7_isNextAbove_50 (by decide) ?_
        have h' := Option.some.inj h
        rw [← hQQ]
        exact W.zret (v := (1 : Int32)) hx hb hr rfl (fun t ht hW => ⟨⟨(1 : Int32), (), rfl, by rw [← h'], by rw [← hWQ, ht]; exact hP, va_K.moved hW.alike hK⟩, hS.F ht⟩) hS.2.2 dX7_isNextAbove_51
      · have h := g_f h cz
        refine lv_aload_n hx hb dX7_isNextAbove_24 rfl (lv_at hl 0 rfl) ?_
        refine lv_iload_n hx hb dX7_isNextAbove_25 rfl (lv_at hl 1 rfl) ?_
        refine lv_iload_n hx hb dX7_isNextAbove_26 rfl (lv_at hl 3 rfl) ?_
        obtain ⟨q27, e27, h⟩ := g_b h
        refine callVis (cc := cX7_isNextAbove) (w1 := zzX ad cy rb rc (ad 4) (ad 11) pb (ad 4) (ad 20) iX iR iT wT tx iB lB aB iC aC iD lD aD iE aE iK lK aK iW aW iP aP) (As := [.int v1, .int v3]) (rest := []) ⟨hx, hb, hml, hown, hts⟩ (c_X_isStrictlyUnder l dC dI cy ad H.size rb rc pb N v1 v3 iX iR iT wT tx iB lB aB iC aC iD lD aD iE aE iK lK aK iW aW iP aP q27 e27) (cwV 2 hts (goodV m_ml_X7_222 m_im_X7_isStrictlyUnder m_se_X7_isStrictlyUnder m_in_X7 m_cd_X7_isStrictlyUnder) rfl rfl rfl (by decide +kernel) ⟨Nat.le_of_ble_eq_true rfl, Nat.le_of_ble_eq_true rfl⟩) hN hK hP hD hS hA rfl 0 rfl rfl rfl hl.1 rfl (Nat.le_of_ble_eq_true rfl) dX7_isNextAbove_27 ⟨Nat.zero_le _, Nat.zero_le _⟩ (fun H locs hP hD hS => ?_)
        refine lv_if_eq (tgt := 44) hx hb dX7_isNextAbove_30 (by decide) (fun cz => ?_) (fun cz => ?_)
        · have h := g_t h cz
          refine lv_iinc (v := (v3 + (1 : Int32))) (lv' := [(3, .int ((v3 + (1 : Int32)))), (0, .ref (ad 0)), (1, .int v1), (2, .int v2)]) hx hb dX7_isNextAbove_44 hl (k := 3) rfl rfl (by decide) rfl (fun ls hl => ?_)
          refine lv_goto (tgt := 13) hx hb dX7_isNextAbove_47 (by decide) ?_
          exact ih v1 v2 ((v3 + (1 : Int32))) H locs ls h hP hD hS (lv_sub hl [1, 2, 3, 0] rfl)
        · have h := g_f h cz
          refine lv_aload_n hx hb dX7_isNextAbove_33 rfl (lv_at hl 0 rfl) ?_
          refine lv_iload_n hx hb dX7_isNextAbove_34 rfl (lv_at hl 3 rfl) ?_
          refine lv_iload_n hx hb dX7_isNextAbove_35 rfl (lv_at hl 2 rfl) ?_
          obtain ⟨q36, e36, h⟩ := g_b h
          refine callVis (cc := cX7_isNextAbove) (w1 := zzX ad cy rb rc (ad 4) (ad 11) pb (ad 4) (ad 20) iX iR iT wT tx iB lB aB iC aC iD lD aD iE aE iK lK aK iW aW iP aP) (As := [.int v3, .int v2]) (rest := []) ⟨hx, hb, hml, hown, hts⟩ (c_X_isStrictlyUnder l dC dI cy ad H.size rb rc pb N v3 v2 iX iR iT wT tx iB lB aB iC aC iD lD aD iE aE iK lK aK iW aW iP aP q36 e36) (cwV 2 hts (goodV m_ml_X7_222 m_im_X7_isStrictlyUnder m_se_X7_isStrictlyUnder m_in_X7 m_cd_X7_isStrictlyUnder) rfl rfl rfl (by decide +kernel) ⟨Nat.le_of_ble_eq_true rfl, Nat.le_of_ble_eq_true rfl⟩) hN hK hP hD hS hA rfl 0 rfl rfl rfl hl.1 rfl (Nat.le_of_ble_eq_true rfl) dX7_isNextAbove_36 ⟨Nat.zero_le _, Nat.zero_le _⟩ (fun H locs hP hD hS => ?_)
          refine lv_if_eq (tgt := 44) hx hb dX7_isNextAbove_39 (by decide) (fun cz => ?_) (fun cz => ?_)
          · have h := g_t h cz
            refine lv_iinc (v := (v3 + (1 : Int32))) (lv' := [(3, .int ((v3 + (1 : Int32)))), (0, .ref (ad 0)), (1, .int v1), (2, .int v2)]) hx hb dX7_isNextAbove_44 hl (k := 3) rfl rfl (by decide) rfl (fun ls hl => ?_)
            refine lv_goto (tgt := 13) hx hb dX7_isNextAbove_47 (by decide) ?_
            exact ih v1 v2 ((v3 + (1 : Int32))) H locs ls h hP hD hS (lv_sub hl [1, 2, 3, 0] rfl)
          · have h := g_f h cz
            refine lv_iconst (v := 0) hx hb dX7_isNextAbove_42 (by decide) ?_
            have h' := Option.some.inj h
            rw [← hQQ]
            exact W.zret (v := (0 : Int32)) hx hb hr rfl (fun t ht hW => ⟨⟨(0 : Int32), (), rfl, by rw [← h'], by rw [← hWQ, ht]; exact hP, va_K.moved hW.alike hK⟩, hS.F ht⟩) hS.2.2 dX7_isNextAbove_43
  intro H locs hP hD hS
  unfold f_X_isNextAbove at h
  refine lv_aload_n hx hb dX7_isNextAbove_0 rfl (lv_at hl 0 rfl) ?_
  refine lv_iload_n hx hb dX7_isNextAbove_1 rfl (lv_at hl 1 rfl) ?_
  refine lv_iload_n hx hb dX7_isNextAbove_2 rfl (lv_at hl 2 rfl) ?_
  obtain ⟨q3, e3, h⟩ := g_b h
  refine callVis (cc := cX7_isNextAbove) (w1 := zzX ad cy rb rc (ad 4) (ad 11) pb (ad 4) (ad 20) iX iR iT wT tx iB lB aB iC aC iD lD aD iE aE iK lK aK iW aW iP aP) (As := [.int a1, .int a2]) (rest := []) ⟨hx, hb, hml, hown, hts⟩ (c_X_isStrictlyUnder l dC dI cy ad H.size rb rc pb N a1 a2 iX iR iT wT tx iB lB aB iC aC iD lD aD iE aE iK lK aK iW aW iP aP q3 e3) (cwV 2 hts (goodV m_ml_X7_222 m_im_X7_isStrictlyUnder m_se_X7_isStrictlyUnder m_in_X7 m_cd_X7_isStrictlyUnder) rfl rfl rfl (by decide +kernel) ⟨Nat.le_of_ble_eq_true rfl, Nat.le_of_ble_eq_true rfl⟩) hN hK hP hD hS hA rfl 0 rfl rfl rfl hl.1 rfl (Nat.le_of_ble_eq_true rfl) dX7_isNextAbove_3 ⟨Nat.zero_le _, Nat.zero_le _⟩ (fun H locs hP hD hS => ?_)
  refine lv_if_ne (tgt := 11) hx hb dX7_isNextAbove_6 (by decide) (fun cz => ?_) (fun cz => ?_)
  · have h := g_f h cz
    refine lv_iconst (v := 0) hx hb dX7_isNextAbove_11 (by decide) ?_
    refine lv_istore_n (lv' := [(3, .int ((0 : Int32))), (0, .ref (ad 0)), (1, .int a1), (2, .int a2)]) hx hb dX7_isNextAbove_12 rfl hl (by decide) rfl (fun ls hl => ?_)
    exact B13 N a1 a2 ((0 : Int32)) H locs ls h hP hD hS (lv_sub hl [1, 2, 3, 0] rfl)
  · have h := g_t h cz
    refine lv_iconst (v := 0) hx hb dX7_isNextAbove_9 (by decide) ?_
    have h' := Option.some.inj h
    rw [← hQQ]
    exact W.zret (v := (0 : Int32)) hx hb hr rfl (fun t ht hW => ⟨⟨(0 : Int32), (), rfl, by rw [← h'], by rw [← hWQ, ht]; exact hP, va_K.moved hW.alike hK⟩, hS.F ht⟩) hS.2.2 dX7_isNextAbove_10
set_option maxHeartbeats 8000000 in
set_option maxRecDepth 100000 in
theorem c_X_next (l : Launch) (dC : Nat → ClassId) (dI : Nat → Nat → Nat) (cy : Nat → ClassId) (ad : Nat → Nat) (sz : Nat) (rb : Nat) (rc : Nat) (pb : Nat) (N : Nat) (a1 : Int32) (a2 : Int32) (iX : Nat → Int32) (iR : Nat → Int32) (iT : Nat → Int32) (wT : Int64) (tx : Nat → Int32) (iB : Nat → Int32) (lB : Nat → Nat → Int64) (aB : Nat → Nat → Int32) (iC : Nat → Int32) (aC : Nat → Nat → Int32) (iD : Nat → Int32) (lD : Nat → Nat → Int64) (aD : Nat → Nat → Int32) (iE : Nat → Int32) (aE : Nat → Nat → Int32) (iK : Nat → Int32) (lK : Nat → Nat → Int64) (aK : Nat → Nat → Int32) (iW : Nat → Int32) (aW : Nat → Nat → Int32) (iP : Nat → Int32) (aP : Nat → Nat → Int32) (q : Int32) (h : f_X_next N a1 a2 (iX 5) (iB 3) (iC 4) (aC 0) (aC 1) (aC 2) (lK 3) (lK 9) = some q) : Met l yX7_next wsX7_next ({ frames := 5, cells := 0, slots := 0, locals := 112 } : Room) (cP (dC, dI) cy [.ref (ad 0), .int a1, .int a2] (zzX ad cy rb rc (ad 4) (ad 11) pb (ad 4) (ad 20) iX iR iT wT tx iB lB aB iC aC iD lD aD iE aE iK lK aK iW aW iP aP) sz) (cQi (dC, dI) cy q (zzX ad cy rb rc (ad 4) (ad 11) pb (ad 4) (ad 20) iX iR iT wT tx iB lB aB iC aC iD lD aD iE aE iK lK aK iW aW iP aP) (va_A (zzX ad cy rb rc (ad 4) (ad 11) pb (ad 4) (ad 20) iX iR iT wT tx iB lB aB iC aC iD lD aD iE aE iK lK aK iW aW iP aP) sz)) 0 0 (va_A (zzX ad cy rb rc (ad 4) (ad 11) pb (ad 4) (ad 20) iX iR iT wT tx iB lB aB iC aC iD lD aD iE aE iK lK aK iW aW iP aP) sz) := by
  refine Met.ofW (cc := cX7_next) (maxL := 5) (ret := (some .int)) (by decide) rfl ?_
  intro p e s m args below meth c s₁ B hml hv
  obtain ⟨hav, hsz, hP, hK, hD0, hN⟩ := hv
  have hx := B.exec
  have hb := B.bytes
  have hr := B.returns
  have hts := atoms_spec (ws := wsX7_next) B.pre
  have hown : s.vm.findClass RX7 = some m.cls := findClass_of_methodNamed B.named
  have hlocks := B.notSynchronized
  subst hsz
  have hD := hD0.self (sz := s.heap.size)
  generalize hAe : va_A (zzX ad cy rb rc (ad 4) (ad 11) pb (ad 4) (ad 20) iX iR iT wT tx iB lB aB iC aC iD lD aD iE aE iK lK aK iW aW iP aP) s.heap.size = A at hD ⊢
  have hA : ∀ q : Nat, s.heap.size ≤ q → A q := fun q h => by rw [← hAe]; exact Or.inr h
  have hS : va_S A s.heap s.heap [] := va_S.rf
  generalize hWQ : (zzX ad cy rb rc (ad 4) (ad 11) pb (ad 4) (ad 20) iX iR iT wT tx iB lB aB iC aC iD lD aD iE aE iK lK aK iW aW iP aP) = WQ
  generalize hQQ : MQ below (cQi (dC, dI) cy q WQ A) args s 0 0 A = QQ
  have hl := lv_entry ([.ref (ad 0), .int a1, .int a2] : List Value) (n := 5) (Nat.le_of_ble_eq_true rfl)
  have hfr := lg_entry_eq m ([.ref (ad 0), .int a1, .int a2] : List Value) 5
  rw [← hav] at hfr
  rw [hfr]
  clear hfr hav
  generalize (lg_sl ([.ref (ad 0), .int a1, .int a2] : List Value) ++ List.replicate (5 - (lg_sl ([.ref (ad 0), .int a1, .int a2] : List Value)).length) Slot.unset).toArray = ls at hl ⊢
  have hl : lv_has ls 5 [(0, .ref (ad 0)), (1, .int a1), (2, .int a2)] := hl
  have kf16 := hts _ (List.mem_cons_of_mem _ m_fl_X7_16)
  have ki7 := (fun w h => List.mem_cons_of_mem _ (i_X7 w h) : ∀ w ∈ u_ws RX7 TX7 9, w ∈ wsX7_next)
  have kf89 := hts _ (List.mem_cons_of_mem _ m_fl_X7_89)
  have ki0 := (fun w h => List.mem_cons_of_mem _ (i_X0 w h) : ∀ w ∈ u_ws RX0 TX0 15, w ∈ wsX7_next)
  have kf70 := hts _ (List.mem_cons_of_mem _ m_fl_X7_70)
  refine (?_ : ∀ (H : Heap) (locs : List Loc), va_P (dC, dI) vwCl (zzX ad cy rb rc (ad 4) (ad 11) pb (ad 4) (ad 20) iX iR iT wT tx iB lB aB iC aC iD lD aD iE aE iK lK aK iW aW iP aP) H → va_D A (zzX ad cy rb rc (ad 4) (ad 11) pb (ad 4) (ad 20) iX iR iT wT tx iB lB aB iC aC iD lD aD iE aE iK lK aK iW aW iP aP) → va_S A s.heap H locs → W p l e ({ frames := 5, cells := 0, slots := 0, locals := 112 } : Room) s m args below meth c H locs 0 0 QQ (F0 m 0 ls [])) s.heap [] hP hD hS
  clear hP hD hS
  have B26 : ∀ (n : Nat) (v1 : Int32) (v2 : Int32) (v3 : Int32) (v4 : Int32) (H : Heap) (locs : List Loc) (ls : Array Slot), f_X_next_26 N (iX 5) (iB 3) (iC 4) (aC 0) (aC 1) (aC 2) (lK 3) (lK 9) v1 v2 n v3 v4 = some q → va_P (dC, dI) vwCl (zzX ad cy rb rc (ad 4) (ad 11) pb (ad 4) (ad 20) iX iR iT wT tx iB lB aB iC aC iD lD aD iE aE iK lK aK iW aW iP aP) H → va_D A (zzX ad cy rb rc (ad 4) (ad 11) pb (ad 4) (ad 20) iX iR iT wT tx iB lB aB iC aC iD lD aD iE aE iK lK aK iW aW iP aP) → va_S A s.heap H locs → lv_has ls 5 [(0, .ref (ad 0)), (1, .int v1), (2, .int v2), (3, .int v3), (4, .int v4)] → W p l e ({ frames := 5, cells := 0, slots := 0, locals := 112 } : Room) s m args below meth c H locs 0 0 QQ (F0 m 26 ls []) := by
    intro n
    induction n with
    | zero =>
      intro v1 v2 v3 v4 H locs ls h hP hD hS hl
      rw [f_X_next_26] at h
      cases h
    | succ n ih =>
      intro v1 v2 v3 v4 H locs ls h hP hD hS hl
      rw [f_X_next_26] at h
      refine lv_iload hx hb dX7_next_26 (lv_at hl 4 rfl) ?_
      refine lv_aload_n hx hb dX7_next_28 rfl (lv_at hl 0 rfl) ?_
      refine va_get (D := (dC, dI)) (ci := 7) (v := .ref (ad 4)) (C := RX7) (T := TX7) (N := 9) hx hb hts ki7 hown hK hP 0 rfl rfl 3 (by decide) kf16 (fun _ h9 => h9) rfl dX7_next_29 ?_
      refine va_get (D := (dC, dI)) (ci := 0) (v := .int (iB 3)) (C := RX0) (T := TX0) (N := 15) hx hb hts ki0 hown hK hP 4 rfl rfl 3 (by decide) kf89 (fun _ h9 => h9) rfl dX7_next_32 ?_
      refine lv_icmp_ge (tgt := 65) hx hb dX7_next_35 (by decide) (fun cz => ?_) (fun cz => ?_)
      · have h := g_t h cz
        refine lv_iconst (v := (-1)) hx hb dX7_next_65 (by decide) ?_
        have h' := Option.some.inj h
        rw [← hQQ]
        exact W.iret (v := (-1 : Int32)) hx hb hr (fun t ht hW => ⟨⟨(-1 : Int32), (), rfl, by rw [← h'], by rw [← hWQ, ht]; exact hP, va_K.moved hW.alike hK⟩, hS.F ht⟩) hS.2.2 dX7_next_66
      · have h := g_f h cz
        refine lv_aload_n hx hb dX7_next_38 rfl (lv_at hl 0 rfl) ?_
        refine lv_iload_n hx hb dX7_next_39 rfl (lv_at hl 1 rfl) ?_
        refine lv_iload hx hb dX7_next_40 (lv_at hl 4 rfl) ?_
        obtain ⟨q42, e42, h⟩ := g_b h
        refine callVis (cc := cX7_next) (w1 := zzX ad cy rb rc (ad 4) (ad 11) pb (ad 4) (ad 20) iX iR iT wT tx iB lB aB iC aC iD lD aD iE aE iK lK aK iW aW iP aP) (As := [.int v1, .int v4]) (rest := []) ⟨hx, hb, hml, hown, hts⟩ (c_X_isNextAbove l dC dI cy ad H.size rb rc pb N v1 v4 iX iR iT wT tx iB lB aB iC aC iD lD aD iE aE iK lK aK iW aW iP aP q42 e42) (cwV 2 hts (goodV m_ml_X7_172 m_im_X7_isNextAbove m_se_X7_isNextAbove m_in_X7 m_cd_X7_isNextAbove) rfl rfl rfl (by decide +kernel) ⟨Nat.le_of_ble_eq_true rfl, Nat.le_of_ble_eq_true rfl⟩) hN hK hP hD hS hA rfl 0 rfl rfl rfl hl.1 rfl (Nat.le_of_ble_eq_true rfl) dX7_next_42 ⟨Nat.zero_le _, Nat.zero_le _⟩ (fun H locs hP hD hS => ?_)
        refine lv_if_eq (tgt := 59) hx hb dX7_next_45 (by decide) (fun cz => ?_) (fun cz => ?_)
        · have h := g_t h cz
          refine lv_iinc (v := (v4 + (1 : Int32))) (lv' := [(4, .int ((v4 + (1 : Int32)))), (0, .ref (ad 0)), (1, .int v1), (2, .int v2), (3, .int v3)]) hx hb dX7_next_59 hl (k := 4) rfl rfl (by decide) rfl (fun ls hl => ?_)
          refine lv_goto (tgt := 26) hx hb dX7_next_62 (by decide) ?_
          exact ih v1 v2 v3 ((v4 + (1 : Int32))) H locs ls h hP hD hS (lv_sub hl [1, 2, 3, 4, 0] rfl)
        · have h := g_f h cz
          refine lv_iload_n hx hb dX7_next_48 rfl (lv_at hl 3 rfl) ?_
          refine lv_iload_n hx hb dX7_next_49 rfl (lv_at hl 2 rfl) ?_
          refine lv_icmp_ne (tgt := 56) hx hb dX7_next_50 (by decide) (fun cz => ?_) (fun cz => ?_)
          · have h := g_f h cz
            refine lv_iinc (v := (v3 + (1 : Int32))) (lv' := [(3, .int ((v3 + (1 : Int32)))), (0, .ref (ad 0)), (1, .int v1), (2, .int v2), (4, .int v4)]) hx hb dX7_next_56 hl (k := 3) rfl rfl (by decide) rfl (fun ls hl => ?_)
            refine lv_iinc (v := (v4 + (1 : Int32))) (lv' := [(4, .int ((v4 + (1 : Int32)))), (3, .int ((v3 + (1 : Int32)))), (0, .ref (ad 0)), (1, .int v1), (2, .int v2)]) hx hb dX7_next_59 hl (k := 4) rfl rfl (by decide) rfl (fun ls hl => ?_)
            refine lv_goto (tgt := 26) hx hb dX7_next_62 (by decide) ?_
            exact ih v1 v2 ((v3 + (1 : Int32))) ((v4 + (1 : Int32))) H locs ls h hP hD hS (lv_sub hl [2, 3, 4, 1, 0] rfl)
          · have h := g_t h cz
            refine lv_iload hx hb dX7_next_53 (lv_at hl 4 rfl) ?_
            have h' := Option.some.inj h
            rw [← hQQ]
            exact W.iret (v := v4) hx hb hr (fun t ht hW => ⟨⟨v4, (), rfl, by rw [← h'], by rw [← hWQ, ht]; exact hP, va_K.moved hW.alike hK⟩, hS.F ht⟩) hS.2.2 dX7_next_55
  intro H locs hP hD hS
  unfold f_X_next at h
  refine lv_aload_n hx hb dX7_next_0 rfl (lv_at hl 0 rfl) ?_
  refine va_get (D := (dC, dI)) (ci := 7) (v := .int (iX 5)) (C := RX7) (T := TX7) (N := 9) hx hb hts ki7 hown hK hP 0 rfl rfl 5 (by decide) kf70 (fun _ h9 => h9) rfl dX7_next_1 ?_
  refine lv_if_ne (tgt := 10) hx hb dX7_next_4 (by decide) (fun cz => ?_) (fun cz => ?_)
  · have h := g_f h cz
    refine lv_aload_n hx hb dX7_next_10 rfl (lv_at hl 0 rfl) ?_
    refine lv_iload_n hx hb dX7_next_11 rfl (lv_at hl 1 rfl) ?_
    obtain ⟨q12, e12, h⟩ := g_b h
    refine callVis (cc := cX7_next) (w1 := zzX ad cy rb rc (ad 4) (ad 11) pb (ad 4) (ad 20) iX iR iT wT tx iB lB aB iC aC iD lD aD iE aE iK lK aK iW aW iP aP) (As := [.int a1]) (rest := []) ⟨hx, hb, hml, hown, hts⟩ (c_X_isName l dC dI cy ad H.size rb rc pb a1 iX iR iT wT tx iB lB aB iC aC iD lD aD iE aE iK lK aK iW aW iP aP q12 e12) (cwV 1 hts (goodV m_ml_X7_166 m_im_X7_isName m_se_X7_isName m_in_X7 m_cd_X7_isName) rfl rfl rfl (by decide +kernel) ⟨Nat.le_of_ble_eq_true rfl, Nat.le_of_ble_eq_true rfl⟩) hN hK hP hD hS hA rfl 0 rfl rfl rfl hl.1 rfl (Nat.le_of_ble_eq_true rfl) dX7_next_12 ⟨Nat.zero_le _, Nat.zero_le _⟩ (fun H locs hP hD hS => ?_)
    refine lv_if_ne (tgt := 21) hx hb dX7_next_15 (by decide) (fun cz => ?_) (fun cz => ?_)
    · have h := g_f h cz
      refine lv_iconst (v := 0) hx hb dX7_next_21 (by decide) ?_
      refine lv_istore_n (lv' := [(3, .int ((0 : Int32))), (0, .ref (ad 0)), (1, .int a1), (2, .int a2)]) hx hb dX7_next_22 rfl hl (by decide) rfl (fun ls hl => ?_)
      refine lv_iconst (v := 0) hx hb dX7_next_23 (by decide) ?_
      refine lv_istore (lv' := [(4, .int ((0 : Int32))), (3, .int ((0 : Int32))), (0, .ref (ad 0)), (1, .int a1), (2, .int a2)]) hx hb dX7_next_24 hl (by decide) rfl (fun ls hl => ?_)
      exact B26 N a1 a2 ((0 : Int32)) ((0 : Int32)) H locs ls h hP hD hS (lv_sub hl [2, 3, 4, 1, 0] rfl)
    · have h := g_t h cz
      refine lv_bipush (v := (-102)) hx hb dX7_next_18 (by decide) ?_
      have h' := Option.some.inj h
      rw [← hQQ]
      exact W.iret (v := (-102 : Int32)) hx hb hr (fun t ht hW => ⟨⟨(-102 : Int32), (), rfl, by rw [← h'], by rw [← hWQ, ht]; exact hP, va_K.moved hW.alike hK⟩, hS.F ht⟩) hS.2.2 dX7_next_20
  · have h := g_t h cz
    refine lv_bipush (v := (-101)) hx hb dX7_next_7 (by decide) ?_
    have h' := Option.some.inj h
    rw [← hQQ]
    exact W.iret (v := (-101 : Int32)) hx hb hr (fun t ht hW => ⟨⟨(-101 : Int32), (), rfl, by rw [← h'], by rw [← hWQ, ht]; exact hP, va_K.moved hW.alike hK⟩, hS.F ht⟩) hS.2.2 dX7_next_9
set_option maxHeartbeats 8000000 in
set_option maxRecDepth 100000 in
theorem c_W_thingFor (l : Launch) (dC : Nat → ClassId) (dI : Nat → Nat → Nat) (cy : Nat → ClassId) (ad : Nat → Nat) (sz : Nat) (a1 : Int32) (iW : Nat → Int32) (aW : Nat → Nat → Int32) (q : Int32 × Int32 × (Nat → Int32) × (Nat → Int32)) (h : f_W_thingFor a1 (iW 1) (aW 0) (aW 2) = some q) : Met l yX6_thingFor wsX6_thingFor ({ frames := 0, cells := 0, slots := 0, locals := 0 } : Room) (cP (dC, dI) cy [.ref (ad 0), .int a1] (zzw ad cy iW aW) sz) (cQi (dC, dI) cy q.1 (zzw ad cy (us iW [(1, q.2.1)]) (us aW [(0, q.2.2.1), (2, q.2.2.2)])) (va_A (zzw ad cy iW aW) sz)) 0 0 (va_A (zzw ad cy iW aW) sz) := by
  refine Met.ofW (cc := cX6_thingFor) (maxL := 2) (ret := (some .int)) (by decide) rfl ?_
  intro p e s m args below meth c s₁ B hml hv
  obtain ⟨hav, hsz, hP, hK, hD0, hN⟩ := hv
  have hx := B.exec
  have hb := B.bytes
  have hr := B.returns
  have hts := atoms_spec (ws := wsX6_thingFor) B.pre
  have hown : s.vm.findClass RX6 = some m.cls := findClass_of_methodNamed B.named
  have hlocks := B.notSynchronized
  subst hsz
  have hD := hD0.self (sz := s.heap.size)
  generalize hAe : va_A (zzw ad cy iW aW) s.heap.size = A at hD ⊢
  have hA : ∀ q : Nat, s.heap.size ≤ q → A q := fun q h => by rw [← hAe]; exact Or.inr h
  have hS : va_S A s.heap s.heap [] := va_S.rf
  generalize hWQ : (zzw ad cy (us iW [(1, q.2.1)]) (us aW [(0, q.2.2.1), (2, q.2.2.2)])) = WQ
  generalize hQQ : MQ below (cQi (dC, dI) cy q.1 WQ A) args s 0 0 A = QQ
  have hl := lv_entry ([.ref (ad 0), .int a1] : List Value) (n := 2) (Nat.le_of_ble_eq_true rfl)
  have hfr := lg_entry_eq m ([.ref (ad 0), .int a1] : List Value) 2
  rw [← hav] at hfr
  rw [hfr]
  clear hfr hav
  generalize (lg_sl ([.ref (ad 0), .int a1] : List Value) ++ List.replicate (2 - (lg_sl ([.ref (ad 0), .int a1] : List Value)).length) Slot.unset).toArray = ls at hl ⊢
  have hl : lv_has ls 2 [(0, .ref (ad 0)), (1, .int a1)] := hl
  have kf15 := hts _ (List.mem_cons_of_mem _ m_fl_X6_15)
  have ki6 := (fun w h => List.mem_cons_of_mem _ (i_X6 w h) : ∀ w ∈ u_ws RX6 TX6 5, w ∈ wsX6_thingFor)
  have kf22 := hts _ (List.mem_cons_of_mem _ m_fl_X6_22)
  have kf9 := hts _ (List.mem_cons_of_mem _ m_fl_X6_9)
  refine (?_ : ∀ (H : Heap) (locs : List Loc), va_P (dC, dI) vwCl (zzw ad cy iW aW) H → va_D A (zzw ad cy iW aW) → va_S A s.heap H locs → W p l e ({ frames := 0, cells := 0, slots := 0, locals := 0 } : Room) s m args below meth c H locs 0 0 QQ (F0 m 0 ls [])) s.heap [] hP hD hS
  clear hP hD hS
  have B65 : ∀ (v1 : Int32) (x_iW1 : Int32) (x_aW0 : Nat → Int32) (x_aW2 : Nat → Int32) (H : Heap) (locs : List Loc) (ls : Array Slot), f_W_thingFor_65 (iW 1) (aW 0) (aW 2) v1 x_iW1 x_aW0 x_aW2 = some q → va_P (dC, dI) vwCl (zzw ad cy (us iW [(1, x_iW1)]) (us aW [(0, x_aW0), (2, x_aW2)])) H → va_D A (zzw ad cy (us iW [(1, x_iW1)]) (us aW [(0, x_aW0), (2, x_aW2)])) → va_S A s.heap H locs → lv_has ls 2 [(0, .ref (ad 0)), (1, .int v1)] → W p l e ({ frames := 0, cells := 0, slots := 0, locals := 0 } : Room) s m args below meth c H locs 0 0 QQ (F0 m 65 ls []) := by
    intro v1 x_iW1 x_aW0 x_aW2 H locs ls h hP hD hS hl
    unfold f_W_thingFor_65 at h
    refine lv_aload_n hx hb dX6_thingFor_65 rfl (lv_at hl 0 rfl) ?_
    refine va_get (D := (dC, dI)) (ci := 6) (v := .ref (ad 2)) (C := RX6) (T := TX6) (N := 5) hx hb hts ki6 hown hK hP 0 rfl rfl 2 (by decide) kf15 (fun _ h9 => h9) rfl dX6_thingFor_66 ?_
    refine lv_iload_n hx hb dX6_thingFor_69 rfl (lv_at hl 1 rfl) ?_
    obtain ⟨g_32, h⟩ := g_n h
    refine va_sald (f := x_aW2) hx hb hK hP 2 3 rfl rfl g_32 dX6_thingFor_70 ?_
    have h' := Option.some.inj h
    rw [← hQQ]
    exact W.iret (v := (x_aW2 v1.toNatClampNeg)) hx hb hr (fun t ht hW => ⟨⟨(x_aW2 v1.toNatClampNeg), (), rfl, by rw [← h'], by rw [← hWQ, ← h', ht]; exact hP, va_K.moved hW.alike hK⟩, hS.F ht⟩) hS.2.2 dX6_thingFor_71
  intro H locs hP hD hS
  unfold f_W_thingFor at h
  refine lv_iload_n hx hb dX6_thingFor_0 rfl (lv_at hl 1 rfl) ?_
  refine lv_if_lt (tgt := 11) hx hb dX6_thingFor_1 (by decide) (fun cz => ?_) (fun cz => ?_)
  · have h := g_t h cz
    refine lv_iconst (v := 0) hx hb dX6_thingFor_11 (by decide) ?_
    have h' := Option.some.inj h
    rw [← hQQ]
    exact W.iret (v := (0 : Int32)) hx hb hr (fun t ht hW => ⟨⟨(0 : Int32), (), rfl, by rw [← h'], by rw [← hWQ, ← h', ht]; exact hP, va_K.moved hW.alike hK⟩, hS.F ht⟩) hS.2.2 dX6_thingFor_12
  · have h := g_f h cz
    refine lv_iload_n hx hb dX6_thingFor_4 rfl (lv_at hl 1 rfl) ?_
    refine lv_sipush (v := 512) hx hb dX6_thingFor_5 (by decide) ?_
    refine lv_icmp_lt (tgt := 13) hx hb dX6_thingFor_8 (by decide) (fun cz => ?_) (fun cz => ?_)
    · have h := g_t h cz
      refine lv_aload_n hx hb dX6_thingFor_13 rfl (lv_at hl 0 rfl) ?_
      refine va_get (D := (dC, dI)) (ci := 6) (v := .ref (ad 2)) (C := RX6) (T := TX6) (N := 5) hx hb hts ki6 hown hK hP 0 rfl rfl 2 (by decide) kf15 (fun _ h9 => h9) rfl dX6_thingFor_14 ?_
      refine lv_iload_n hx hb dX6_thingFor_17 rfl (lv_at hl 1 rfl) ?_
      obtain ⟨g_34, h⟩ := g_n h
      refine va_sald (f := (aW 2)) hx hb hK hP 2 3 rfl rfl g_34 dX6_thingFor_18 ?_
      refine lv_iconst (v := (-1)) hx hb dX6_thingFor_19 (by decide) ?_
      refine lv_icmp_ne (tgt := 65) hx hb dX6_thingFor_20 (by decide) (fun cz => ?_) (fun cz => ?_)
      · have h := g_f h cz
        exact B65 a1 (iW 1) (aW 0) (aW 2) H locs ls h hP hD hS (lv_sub hl [0, 1] rfl)
      · have h := g_t h cz
        refine lv_aload_n hx hb dX6_thingFor_23 rfl (lv_at hl 0 rfl) ?_
        refine va_get (D := (dC, dI)) (ci := 6) (v := .int (iW 1)) (C := RX6) (T := TX6) (N := 5) hx hb hts ki6 hown hK hP 0 rfl rfl 1 (by decide) kf22 (fun _ h9 => h9) rfl dX6_thingFor_24 ?_
        refine lv_sipush (v := 512) hx hb dX6_thingFor_27 (by decide) ?_
        refine lv_icmp_ge (tgt := 65) hx hb dX6_thingFor_30 (by decide) (fun cz => ?_) (fun cz => ?_)
        · have h := g_t h cz
          exact B65 a1 (iW 1) (aW 0) (aW 2) H locs ls h hP hD hS (lv_sub hl [0, 1] rfl)
        · have h := g_f h cz
          refine lv_aload_n hx hb dX6_thingFor_33 rfl (lv_at hl 0 rfl) ?_
          refine va_get (D := (dC, dI)) (ci := 6) (v := .ref (ad 2)) (C := RX6) (T := TX6) (N := 5) hx hb hts ki6 hown hK hP 0 rfl rfl 2 (by decide) kf15 (fun _ h9 => h9) rfl dX6_thingFor_34 ?_
          refine lv_iload_n hx hb dX6_thingFor_37 rfl (lv_at hl 1 rfl) ?_
          refine lv_aload_n hx hb dX6_thingFor_38 rfl (lv_at hl 0 rfl) ?_
          refine va_get (D := (dC, dI)) (ci := 6) (v := .int (iW 1)) (C := RX6) (T := TX6) (N := 5) hx hb hts ki6 hown hK hP 0 rfl rfl 1 (by decide) kf22 (fun _ h9 => h9) rfl dX6_thingFor_39 ?_
          refine lv_i2s (v := ((iW 1)).toInt16.toInt32) hx hb dX6_thingFor_42 rfl ?_
          refine va_sast (f := (aW 2)) hx hb hK hP hD hS 2 3 rfl rfl g_34 dX6_thingFor_43 (fun H locs hP hD hS => ?_)
          have hP : va_P (dC, dI) vwCl (zzw ad cy iW (us aW [(2, (upd (aW 2) a1.toNatClampNeg (vp_nar .short ((iW 1)).toInt16.toInt32)))])) H := Eq.mp (congrArg (fun w => va_P (dC, dI) vwCl w H) (sfw_aW2 ad cy iW aW ((upd (aW 2) a1.toNatClampNeg (vp_nar .short ((iW 1)).toInt16.toInt32))))) hP
          have hD : va_D A (zzw ad cy iW (us aW [(2, (upd (aW 2) a1.toNatClampNeg (vp_nar .short ((iW 1)).toInt16.toInt32)))])) := Eq.mp (congrArg (fun w => va_D A w) (sfw_aW2 ad cy iW aW ((upd (aW 2) a1.toNatClampNeg (vp_nar .short ((iW 1)).toInt16.toInt32))))) hD
          refine lv_aload_n hx hb dX6_thingFor_44 rfl (lv_at hl 0 rfl) ?_
          refine va_get (D := (dC, dI)) (ci := 6) (v := .ref (ad 1)) (C := RX6) (T := TX6) (N := 5) hx hb hts ki6 hown hK hP 0 rfl rfl 0 (by decide) kf9 (fun _ h9 => h9) rfl dX6_thingFor_45 ?_
          refine lv_aload_n hx hb dX6_thingFor_48 rfl (lv_at hl 0 rfl) ?_
          refine va_get (D := (dC, dI)) (ci := 6) (v := .int (iW 1)) (C := RX6) (T := TX6) (N := 5) hx hb hts ki6 hown hK hP 0 rfl rfl 1 (by decide) kf22 (fun _ h9 => h9) rfl dX6_thingFor_49 ?_
          refine lv_iload_n hx hb dX6_thingFor_52 rfl (lv_at hl 1 rfl) ?_
          refine lv_i2s (v := (a1).toInt16.toInt32) hx hb dX6_thingFor_53 rfl ?_
          obtain ⟨g_37, h⟩ := g_n h
          refine va_sast (f := (aW 0)) hx hb hK hP hD hS 1 3 rfl rfl g_37 dX6_thingFor_54 (fun H locs hP hD hS => ?_)
          have hP : va_P (dC, dI) vwCl (zzw ad cy iW (us aW [(0, (upd (aW 0) (iW 1).toNatClampNeg (vp_nar .short (a1).toInt16.toInt32))), (2, (upd (aW 2) a1.toNatClampNeg (vp_nar .short ((iW 1)).toInt16.toInt32)))])) H := Eq.mp (congrArg (fun w => va_P (dC, dI) vwCl w H) (stw_aW0 ad cy iW aW [(2, (upd (aW 2) a1.toNatClampNeg (vp_nar .short ((iW 1)).toInt16.toInt32)))] ((upd (aW 0) (iW 1).toNatClampNeg (vp_nar .short (a1).toInt16.toInt32))))) hP
          have hD : va_D A (zzw ad cy iW (us aW [(0, (upd (aW 0) (iW 1).toNatClampNeg (vp_nar .short (a1).toInt16.toInt32))), (2, (upd (aW 2) a1.toNatClampNeg (vp_nar .short ((iW 1)).toInt16.toInt32)))])) := Eq.mp (congrArg (fun w => va_D A w) (stw_aW0 ad cy iW aW [(2, (upd (aW 2) a1.toNatClampNeg (vp_nar .short ((iW 1)).toInt16.toInt32)))] ((upd (aW 0) (iW 1).toNatClampNeg (vp_nar .short (a1).toInt16.toInt32))))) hD
          refine lv_aload_n hx hb dX6_thingFor_55 rfl (lv_at hl 0 rfl) ?_
          refine lv_dup hx hb dX6_thingFor_56 rfl ?_
          refine va_get (D := (dC, dI)) (ci := 6) (v := .int (iW 1)) (C := RX6) (T := TX6) (N := 5) hx hb hts ki6 hown hK hP 0 rfl rfl 1 (by decide) kf22 (fun _ h9 => h9) rfl dX6_thingFor_57 ?_
          refine lv_iconst (v := 1) hx hb dX6_thingFor_60 (by decide) ?_
          refine lv_iadd hx hb dX6_thingFor_61 ?_
          refine va_put (D := (dC, dI)) (ci := 6) (v := .int (((iW 1) + (1 : Int32)))) (ty := .int) (C := RX6) (T := TX6) (N := 5) hx hb hts ki6 tyX6 tyX6_ok nmX6 hown hK hP hD hS 0 rfl rfl 1 (by decide) kf22 (fun _ h9 => h9) rfl (by decide +kernel) rfl rfl (Nat.le_of_ble_eq_true rfl) dX6_thingFor_62 (fun H locs hP hD hS => ?_)
          have hP : va_P (dC, dI) vwCl (zzw ad cy (us iW [(1, ((iW 1) + (1 : Int32)))]) (us aW [(0, (upd (aW 0) (iW 1).toNatClampNeg (vp_nar .short (a1).toInt16.toInt32))), (2, (upd (aW 2) a1.toNatClampNeg (vp_nar .short ((iW 1)).toInt16.toInt32)))])) H := Eq.mp (congrArg (fun w => va_P (dC, dI) vwCl w H) (sfw_iW1 ad cy iW (us aW [(0, (upd (aW 0) (iW 1).toNatClampNeg (vp_nar .short (a1).toInt16.toInt32))), (2, (upd (aW 2) a1.toNatClampNeg (vp_nar .short ((iW 1)).toInt16.toInt32)))]) (((iW 1) + (1 : Int32))))) hP
          have hD : va_D A (zzw ad cy (us iW [(1, ((iW 1) + (1 : Int32)))]) (us aW [(0, (upd (aW 0) (iW 1).toNatClampNeg (vp_nar .short (a1).toInt16.toInt32))), (2, (upd (aW 2) a1.toNatClampNeg (vp_nar .short ((iW 1)).toInt16.toInt32)))])) := Eq.mp (congrArg (fun w => va_D A w) (sfw_iW1 ad cy iW (us aW [(0, (upd (aW 0) (iW 1).toNatClampNeg (vp_nar .short (a1).toInt16.toInt32))), (2, (upd (aW 2) a1.toNatClampNeg (vp_nar .short ((iW 1)).toInt16.toInt32)))]) (((iW 1) + (1 : Int32))))) hD
          exact B65 a1 (((iW 1) + (1 : Int32))) ((upd (aW 0) (iW 1).toNatClampNeg (vp_nar .short (a1).toInt16.toInt32))) ((upd (aW 2) a1.toNatClampNeg (vp_nar .short ((iW 1)).toInt16.toInt32))) H locs ls h hP hD hS (lv_sub hl [0, 1] rfl)
    · have h := g_f h cz
      refine lv_iconst (v := 0) hx hb dX6_thingFor_11 (by decide) ?_
      have h' := Option.some.inj h
      rw [← hQQ]
      exact W.iret (v := (0 : Int32)) hx hb hr (fun t ht hW => ⟨⟨(0 : Int32), (), rfl, by rw [← h'], by rw [← hWQ, ← h', ht]; exact hP, va_K.moved hW.alike hK⟩, hS.F ht⟩) hS.2.2 dX6_thingFor_12
set_option maxHeartbeats 8000000 in
set_option maxRecDepth 100000 in
theorem c_K_isServed (l : Launch) (dC : Nat → ClassId) (dI : Nat → Nat → Nat) (cy : Nat → ClassId) (ad : Nat → Nat) (sz : Nat) (a1 : Int32) (a2 : Int32) (iK : Nat → Int32) (lK : Nat → Nat → Int64) (aK : Nat → Nat → Int32) (iB : Nat → Int32) (lB : Nat → Nat → Int64) (aB : Nat → Nat → Int32) (iC : Nat → Int32) (aC : Nat → Nat → Int32) (q : Int32) (h : f_K_isServed a1 a2 (iB 13) (iC 9) (aC 5) (aK 5) = some q) : Met l yX2_isServed wsX2_isServed ({ frames := 1, cells := 0, slots := 0, locals := 21 } : Room) (cP (dC, dI) cy [.ref (ad 0), .int a1, .int a2] (zzK ad cy (ad 11) (ad 18) iK lK aK iB lB aB iC aC) sz) (cQi (dC, dI) cy q (zzK ad cy (ad 11) (ad 18) iK lK aK iB lB aB iC aC) (va_A (zzK ad cy (ad 11) (ad 18) iK lK aK iB lB aB iC aC) sz)) 0 0 (va_A (zzK ad cy (ad 11) (ad 18) iK lK aK iB lB aB iC aC) sz) := by
  refine Met.ofW (cc := cX2_isServed) (maxL := 4) (ret := (some .boolean)) (by decide) rfl ?_
  intro p e s m args below meth c s₁ B hml hv
  obtain ⟨hav, hsz, hP, hK, hD0, hN⟩ := hv
  have hx := B.exec
  have hb := B.bytes
  have hr := B.returns
  have hts := atoms_spec (ws := wsX2_isServed) B.pre
  have hown : s.vm.findClass RX2 = some m.cls := findClass_of_methodNamed B.named
  have hlocks := B.notSynchronized
  subst hsz
  have hD := hD0.self (sz := s.heap.size)
  generalize hAe : va_A (zzK ad cy (ad 11) (ad 18) iK lK aK iB lB aB iC aC) s.heap.size = A at hD ⊢
  have hA : ∀ q : Nat, s.heap.size ≤ q → A q := fun q h => by rw [← hAe]; exact Or.inr h
  have hS : va_S A s.heap s.heap [] := va_S.rf
  generalize hWQ : (zzK ad cy (ad 11) (ad 18) iK lK aK iB lB aB iC aC) = WQ
  generalize hQQ : MQ below (cQi (dC, dI) cy q WQ A) args s 0 0 A = QQ
  have hl := lv_entry ([.ref (ad 0), .int a1, .int a2] : List Value) (n := 4) (Nat.le_of_ble_eq_true rfl)
  have hfr := lg_entry_eq m ([.ref (ad 0), .int a1, .int a2] : List Value) 4
  rw [← hav] at hfr
  rw [hfr]
  clear hfr hav
  generalize (lg_sl ([.ref (ad 0), .int a1, .int a2] : List Value) ++ List.replicate (4 - (lg_sl ([.ref (ad 0), .int a1, .int a2] : List Value)).length) Slot.unset).toArray = ls at hl ⊢
  have hl : lv_has ls 4 [(0, .ref (ad 0)), (1, .int a1), (2, .int a2)] := hl
  have kf54 := hts _ (List.mem_cons_of_mem _ m_fl_X2_54)
  have ki2 := (fun w h => List.mem_cons_of_mem _ (i_X2 w h) : ∀ w ∈ u_ws RX2 TX2 15, w ∈ wsX2_isServed)
  have kf44 := hts _ (List.mem_cons_of_mem _ m_fl_X2_44)
  have kf18 := hts _ (List.mem_cons_of_mem _ m_fl_X2_18)
  refine (?_ : ∀ (H : Heap) (locs : List Loc), va_P (dC, dI) vwCl (zzK ad cy (ad 11) (ad 18) iK lK aK iB lB aB iC aC) H → va_D A (zzK ad cy (ad 11) (ad 18) iK lK aK iB lB aB iC aC) → va_S A s.heap H locs → W p l e ({ frames := 1, cells := 0, slots := 0, locals := 21 } : Room) s m args below meth c H locs 0 0 QQ (F0 m 0 ls [])) s.heap [] hP hD hS
  clear hP hD hS
  intro H locs hP hD hS
  unfold f_K_isServed at h
  refine lv_aload_n hx hb dX2_isServed_0 rfl (lv_at hl 0 rfl) ?_
  refine va_get (D := (dC, dI)) (ci := 2) (v := .ref (ad 18)) (C := RX2) (T := TX2) (N := 15) hx hb hts ki2 hown hK hP 0 rfl rfl 1 (by decide) kf54 (fun _ h9 => h9) rfl dX2_isServed_1 ?_
  refine lv_iload_n hx hb dX2_isServed_4 rfl (lv_at hl 2 rfl) ?_
  obtain ⟨q5, e5, h⟩ := g_b h
  refine callVi (cc := cX2_isServed) (ws' := zzK ad cy (ad 11) (ad 18) iK lK aK iB lB aB iC aC) (As := [.int a2]) (rest := []) ⟨hx, hb, hml, hown, hts⟩ (c_C_roleOfAtom l dC dI cy (fun i => ad (i + 18)) H.size a2 iC aC q5 e5) (cwV 1 hts (goodV m_ml_X2_147 m_im_X1_roleOfAtom m_se_X1_roleOfAtom m_in_X1 m_cd_X1_roleOfAtom) rfl rfl rfl (by decide +kernel) ⟨Nat.le_of_ble_eq_true rfl, Nat.le_of_ble_eq_true rfl⟩) hN hK hP hD hS hA [18, 19, 20, 21, 22, 23, 24, 25, 26] [none, none, none, none, none, none, none, none, none, none, none, none, none, none, none, none, none, none, some 0, some 1, some 2, some 3, some 4, some 5, some 6, some 7, some 8] rfl rfl rfl rfl rfl rfl 18 rfl rfl rfl hl.1 rfl (Nat.le_of_ble_eq_true rfl) dX2_isServed_5 ⟨Nat.zero_le _, Nat.zero_le _⟩ (fun H locs hP hD hS => ?_)
  refine lv_istore_n (lv' := [(3, .int q5), (0, .ref (ad 0)), (1, .int a1), (2, .int a2)]) hx hb dX2_isServed_8 rfl hl (by decide) rfl (fun ls hl => ?_)
  refine lv_iload_n hx hb dX2_isServed_9 rfl (lv_at hl 0 rfl) ?_
  refine lv_if_lt (tgt := 29) hx hb dX2_isServed_10 (by decide) (fun cz => ?_) (fun cz => ?_)
  · have h := g_t h cz
    refine lv_iconst (v := 0) hx hb dX2_isServed_29 (by decide) ?_
    have h' := Option.some.inj h
    rw [← hQQ]
    exact W.zret (v := (0 : Int32)) hx hb hr rfl (fun t ht hW => ⟨⟨(0 : Int32), (), rfl, by rw [← h'], by rw [← hWQ, ht]; exact hP, va_K.moved hW.alike hK⟩, hS.F ht⟩) hS.2.2 dX2_isServed_30
  · have h := g_f h cz
    refine lv_iload_n hx hb dX2_isServed_13 rfl (lv_at hl 0 rfl) ?_
    refine lv_iconst (v := 3) hx hb dX2_isServed_14 (by decide) ?_
    refine lv_icmp_ge (tgt := 29) hx hb dX2_isServed_15 (by decide) (fun cz => ?_) (fun cz => ?_)
    · have h := g_t h cz
      refine lv_iconst (v := 0) hx hb dX2_isServed_29 (by decide) ?_
      have h' := Option.some.inj h
      rw [← hQQ]
      exact W.zret (v := (0 : Int32)) hx hb hr rfl (fun t ht hW => ⟨⟨(0 : Int32), (), rfl, by rw [← h'], by rw [← hWQ, ht]; exact hP, va_K.moved hW.alike hK⟩, hS.F ht⟩) hS.2.2 dX2_isServed_30
    · have h := g_f h cz
      refine lv_aload_n hx hb dX2_isServed_18 rfl (lv_at hl 1 rfl) ?_
      refine va_get (D := (dC, dI)) (ci := 2) (v := .ref (ad 11)) (C := RX2) (T := TX2) (N := 15) hx hb hts ki2 hown hK hP 0 rfl rfl 0 (by decide) kf44 (fun _ h9 => h9) rfl dX2_isServed_19 ?_
      refine lv_iload_n hx hb dX2_isServed_22 rfl (lv_at hl 0 rfl) ?_
      obtain ⟨q23, e23, h⟩ := g_b h
      refine callVi (cc := cX2_isServed) (ws' := zzK ad cy (ad 11) (ad 18) iK lK aK iB lB aB iC aC) (As := [.int q5]) (rest := []) ⟨hx, hb, hml, hown, hts⟩ (c_B_isSingle l dC dI cy (fun i => ad (i + 11)) H.size q5 iB lB aB iC aC q23 e23) (cwV 1 hts (goodV m_ml_X2_177 m_im_X0_isSingle m_se_X0_isSingle m_in_X0 m_cd_X0_isSingle) rfl rfl rfl (by decide +kernel) ⟨Nat.le_of_ble_eq_true rfl, Nat.le_of_ble_eq_true rfl⟩) hN hK hP hD hS hA [11, 12, 13, 14, 15, 16, 17, 18, 19, 20, 21, 22, 23, 24, 25, 26] [none, none, none, none, none, none, none, none, none, none, none, some 0, some 1, some 2, some 3, some 4, some 5, some 6, some 7, some 8, some 9, some 10, some 11, some 12, some 13, some 14, some 15] rfl rfl rfl rfl rfl rfl 11 rfl rfl rfl hl.1 rfl (Nat.le_of_ble_eq_true rfl) dX2_isServed_23 ⟨Nat.zero_le _, Nat.zero_le _⟩ (fun H locs hP hD hS => ?_)
      refine lv_if_ne (tgt := 31) hx hb dX2_isServed_26 (by decide) (fun cz => ?_) (fun cz => ?_)
      · have h := g_f h cz
        refine lv_aload_n hx hb dX2_isServed_31 rfl (lv_at hl 1 rfl) ?_
        refine va_get (D := (dC, dI)) (ci := 2) (v := .ref (ad 3)) (C := RX2) (T := TX2) (N := 15) hx hb hts ki2 hown hK hP 0 rfl rfl 5 (by decide) kf18 (fun _ h9 => h9) rfl dX2_isServed_32 ?_
        refine lv_iload_n hx hb dX2_isServed_35 rfl (lv_at hl 0 rfl) ?_
        obtain ⟨g_27, h⟩ := g_n h
        refine va_iald (f := (aK 5)) hx hb hK hP 3 0 rfl rfl g_27 dX2_isServed_36 ?_
        refine lv_iload_n hx hb dX2_isServed_37 rfl (lv_at hl 2 rfl) ?_
        refine lv_iand hx hb dX2_isServed_38 ?_
        refine lv_iconst (v := 1) hx hb dX2_isServed_39 (by decide) ?_
        refine lv_iload_n hx hb dX2_isServed_40 rfl (lv_at hl 3 rfl) ?_
        refine lv_ishl hx hb dX2_isServed_41 ?_
        refine lv_iconst (v := 1) hx hb dX2_isServed_42 (by decide) ?_
        refine lv_isub hx hb dX2_isServed_43 ?_
        refine lv_iand hx hb dX2_isServed_44 ?_
        refine lv_if_eq (tgt := 52) hx hb dX2_isServed_45 (by decide) (fun cz => ?_) (fun cz => ?_)
        · have h := g_t h cz
          refine lv_iconst (v := 0) hx hb dX2_isServed_52 (by decide) ?_
          have h' := Option.some.inj h
          rw [← hQQ]
          exact W.zret (v := (0 : Int32)) hx hb hr rfl (fun t ht hW => ⟨⟨(0 : Int32), (), rfl, by rw [← h'], by rw [← hWQ, ht]; exact hP, va_K.moved hW.alike hK⟩, hS.F ht⟩) hS.2.2 dX2_isServed_53
        · have h := g_f h cz
          refine lv_iconst (v := 1) hx hb dX2_isServed_48 (by decide) ?_
          refine lv_goto (tgt := 53) hx hb dX2_isServed_49 (by decide) ?_
          have h' := Option.some.inj h
          rw [← hQQ]
          exact W.zret (v := (1 : Int32)) hx hb hr rfl (fun t ht hW => ⟨⟨(1 : Int32), (), rfl, by rw [← h'], by rw [← hWQ, ht]; exact hP, va_K.moved hW.alike hK⟩, hS.F ht⟩) hS.2.2 dX2_isServed_53
      · have h := g_t h cz
        refine lv_iconst (v := 0) hx hb dX2_isServed_29 (by decide) ?_
        have h' := Option.some.inj h
        rw [← hQQ]
        exact W.zret (v := (0 : Int32)) hx hb hr rfl (fun t ht hW => ⟨⟨(0 : Int32), (), rfl, by rw [← h'], by rw [← hWQ, ht]; exact hP, va_K.moved hW.alike hK⟩, hS.F ht⟩) hS.2.2 dX2_isServed_30
set_option maxHeartbeats 8000000 in
set_option maxRecDepth 100000 in
theorem c_K_leastMeeting_standing (l : Launch) (dC : Nat → ClassId) (dI : Nat → Nat → Nat) (cy : Nat → ClassId) (ad : Nat → Nat) (sz : Nat) (N : Nat) (a1 : Int32) (a2 : Int32) (iK : Nat → Int32) (lK : Nat → Nat → Int64) (aK : Nat → Nat → Int32) (iB : Nat → Int32) (lB : Nat → Nat → Int64) (aB : Nat → Nat → Int32) (iC : Nat → Int32) (aC : Nat → Nat → Int32) (q : Int32) (h : f_K_leastMeeting_standing N a1 a2 (iB 13) (iC 9) (aC 5) (lK 4) (lK 9) (aK 5) (aK 6) = some q) : Met l yX2_leastMeeting wsX2_leastMeeting ({ frames := 2, cells := 0, slots := 0, locals := 42 } : Room) (cP (dC, dI) cy [.ref (ad 0), .int a1, .int a2, .ref (ad 6)] (zzK ad cy (ad 11) (ad 18) iK lK aK iB lB aB iC aC) sz) (cQi (dC, dI) cy q (zzK ad cy (ad 11) (ad 18) iK lK aK iB lB aB iC aC) (va_A (zzK ad cy (ad 11) (ad 18) iK lK aK iB lB aB iC aC) sz)) 0 0 (va_A (zzK ad cy (ad 11) (ad 18) iK lK aK iB lB aB iC aC) sz) := by
  refine Met.ofW (cc := cX2_leastMeeting) (maxL := 11) (ret := (some .int)) (by decide) rfl ?_
  intro p e s m args below meth c s₁ B hml hv
  obtain ⟨hav, hsz, hP, hK, hD0, hN⟩ := hv
  have hx := B.exec
  have hb := B.bytes
  have hr := B.returns
  have hts := atoms_spec (ws := wsX2_leastMeeting) B.pre
  have hown : s.vm.findClass RX2 = some m.cls := findClass_of_methodNamed B.named
  have hlocks := B.notSynchronized
  subst hsz
  have hD := hD0.self (sz := s.heap.size)
  generalize hAe : va_A (zzK ad cy (ad 11) (ad 18) iK lK aK iB lB aB iC aC) s.heap.size = A at hD ⊢
  have hA : ∀ q : Nat, s.heap.size ≤ q → A q := fun q h => by rw [← hAe]; exact Or.inr h
  have hS : va_S A s.heap s.heap [] := va_S.rf
  generalize hWQ : (zzK ad cy (ad 11) (ad 18) iK lK aK iB lB aB iC aC) = WQ
  generalize hQQ : MQ below (cQi (dC, dI) cy q WQ A) args s 0 0 A = QQ
  have hl := lv_entry ([.ref (ad 0), .int a1, .int a2, .ref (ad 6)] : List Value) (n := 11) (Nat.le_of_ble_eq_true rfl)
  have hfr := lg_entry_eq m ([.ref (ad 0), .int a1, .int a2, .ref (ad 6)] : List Value) 11
  rw [← hav] at hfr
  rw [hfr]
  clear hfr hav
  generalize (lg_sl ([.ref (ad 0), .int a1, .int a2, .ref (ad 6)] : List Value) ++ List.replicate (11 - (lg_sl ([.ref (ad 0), .int a1, .int a2, .ref (ad 6)] : List Value)).length) Slot.unset).toArray = ls at hl ⊢
  have hl : lv_has ls 11 [(0, .ref (ad 0)), (1, .int a1), (2, .int a2), (3, .ref (ad 6))] := hl
  have kf15 := hts _ (List.mem_cons_of_mem _ m_fl_X2_15)
  have ki2 := (fun w h => List.mem_cons_of_mem _ (i_X2 w h) : ∀ w ∈ u_ws RX2 TX2 15, w ∈ wsX2_leastMeeting)
  have kc88 := hts _ (List.mem_cons_of_mem _ m_kl_X2_88)
  have kf22 := hts _ (List.mem_cons_of_mem _ m_fl_X2_22)
  have kf54 := hts _ (List.mem_cons_of_mem _ m_fl_X2_54)
  have kf44 := hts _ (List.mem_cons_of_mem _ m_fl_X2_44)
  have kf18 := hts _ (List.mem_cons_of_mem _ m_fl_X2_18)
  refine (?_ : ∀ (H : Heap) (locs : List Loc), va_P (dC, dI) vwCl (zzK ad cy (ad 11) (ad 18) iK lK aK iB lB aB iC aC) H → va_D A (zzK ad cy (ad 11) (ad 18) iK lK aK iB lB aB iC aC) → va_S A s.heap H locs → W p l e ({ frames := 2, cells := 0, slots := 0, locals := 42 } : Room) s m args below meth c H locs 0 0 QQ (F0 m 0 ls [])) s.heap [] hP hD hS
  clear hP hD hS
  have B176 : ∀ (v5 : Int32) (v6 : Int32) (v7 : Int32) (v8 : Int64) (k68 : Int32 → Option Int32) (hk68 : ∀ (v7' : Int32) (H : Heap) (locs : List Loc) (ls : Array Slot), k68 v7' = some q → va_P (dC, dI) vwCl (zzK ad cy (ad 11) (ad 18) iK lK aK iB lB aB iC aC) H → va_D A (zzK ad cy (ad 11) (ad 18) iK lK aK iB lB aB iC aC) → va_S A s.heap H locs → lv_has ls 11 [(0, .ref (ad 0)), (3, .ref (ad 6)), (5, .int v5), (6, .int v6), (7, .int v7')] → W p l e ({ frames := 2, cells := 0, slots := 0, locals := 42 } : Room) s m args below meth c H locs 0 0 QQ (F0 m 68 ls [])) (H : Heap) (locs : List Loc) (ls : Array Slot), f_K_leastMeeting_standing_176 N (iB 13) (iC 9) (aC 5) (lK 4) (lK 9) (aK 5) (aK 6) k68 v5 v6 v7 v8 = some q → va_P (dC, dI) vwCl (zzK ad cy (ad 11) (ad 18) iK lK aK iB lB aB iC aC) H → va_D A (zzK ad cy (ad 11) (ad 18) iK lK aK iB lB aB iC aC) → va_S A s.heap H locs → lv_has ls 11 [(0, .ref (ad 0)), (3, .ref (ad 6)), (5, .int v5), (6, .int v6), (7, .int v7), (8, .long v8)] → W p l e ({ frames := 2, cells := 0, slots := 0, locals := 42 } : Room) s m args below meth c H locs 0 0 QQ (F0 m 176 ls []) := by
    intro v5 v6 v7 v8 k68 hk68 H locs ls h hP hD hS hl
    unfold f_K_leastMeeting_standing_176 at h
    refine lv_lload hx hb dX2_leastMeeting_176 (lv_at hl 5 rfl) ?_
    refine lv_lconst (v := 0) hx hb dX2_leastMeeting_178 (by decide) ?_
    refine W.lcmp hx hb dX2_leastMeeting_179 ?_
    refine lv_if_eq (tgt := 195) hx hb dX2_leastMeeting_180 (by decide) (fun cz => ?_) (fun cz => ?_)
    · have h := g_t h (lg_cmp0.mp cz)
      refine lv_iinc (v := (v7 + (1 : Int32))) (lv' := [(7, .int ((v7 + (1 : Int32)))), (0, .ref (ad 0)), (3, .ref (ad 6)), (5, .int v5), (6, .int v6), (8, .long v8)]) hx hb dX2_leastMeeting_195 hl (k := 4) rfl rfl (by decide) rfl (fun ls hl => ?_)
      refine lv_goto (tgt := 68) hx hb dX2_leastMeeting_198 (by decide) ?_
      exact hk68 ((v7 + (1 : Int32))) H locs ls h hP hD hS (lv_sub hl [1, 2, 3, 4, 0] rfl)
    · have h := g_f h (fun z => cz (lg_cmp0.mpr z))
      refine lv_bipush (v := 64) hx hb dX2_leastMeeting_183 (by decide) ?_
      refine lv_iload hx hb dX2_leastMeeting_185 (lv_at hl 4 rfl) ?_
      refine lv_imul hx hb dX2_leastMeeting_187 ?_
      refine lv_lload hx hb dX2_leastMeeting_188 (lv_at hl 5 rfl) ?_
      obtain ⟨q190, e190, h⟩ := g_b h
      refine callSi (cc := cX2_leastMeeting) (ws' := zzK ad cy (ad 11) (ad 18) iK lK aK iB lB aB iC aC) (As := [.long v8]) (rest := [.int (((64 : Int32) * v7))]) ⟨hx, hb, hml, hown, hts⟩ (c_K_lowestBit l dC dI cy ad H.size v8 q190 e190) (va_cwS 1 hts (goodS m_ml_X2_180 m_st_X2_lowestBit m_in_X2 m_cd_X2_lowestBit) rfl rfl rfl (by decide +kernel) ⟨Nat.le_of_ble_eq_true rfl, Nat.le_of_ble_eq_true rfl⟩) hN hK hP hD hS hA [] [none, none, none, none, none, none, none, none, none, none, none, none, none, none, none, none, none, none, none, none, none, none, none, none, none, none, none] rfl rfl rfl rfl rfl rfl rfl hl.1 rfl (Nat.le_of_ble_eq_true rfl) dX2_leastMeeting_190 ⟨Nat.zero_le _, Nat.zero_le _⟩ (fun H locs hP hD hS => ?_)
      refine lv_iadd hx hb dX2_leastMeeting_193 ?_
      have h' := Option.some.inj h
      rw [← hQQ]
      exact W.iret (v := (((64 : Int32) * v7) + q190)) hx hb hr (fun t ht hW => ⟨⟨(((64 : Int32) * v7) + q190), (), rfl, by rw [← h'], by rw [← hWQ, ht]; exact hP, va_K.moved hW.alike hK⟩, hS.F ht⟩) hS.2.2 dX2_leastMeeting_194
  have B91 : ∀ (n : Nat) (v5 : Int32) (v6 : Int32) (v7 : Int32) (k68 : Int32 → Option Int32) (hk68 : ∀ (v7' : Int32) (H : Heap) (locs : List Loc) (ls : Array Slot), k68 v7' = some q → va_P (dC, dI) vwCl (zzK ad cy (ad 11) (ad 18) iK lK aK iB lB aB iC aC) H → va_D A (zzK ad cy (ad 11) (ad 18) iK lK aK iB lB aB iC aC) → va_S A s.heap H locs → lv_has ls 11 [(0, .ref (ad 0)), (3, .ref (ad 6)), (5, .int v5), (6, .int v6), (7, .int v7')] → W p l e ({ frames := 2, cells := 0, slots := 0, locals := 42 } : Room) s m args below meth c H locs 0 0 QQ (F0 m 68 ls [])) (v8 : Int64) (v10 : Int32) (H : Heap) (locs : List Loc) (ls : Array Slot), f_K_leastMeeting_standing_91 N (iB 13) (iC 9) (aC 5) (lK 4) (lK 9) (aK 5) (aK 6) k68 v5 v6 v7 n v8 v10 = some q → va_P (dC, dI) vwCl (zzK ad cy (ad 11) (ad 18) iK lK aK iB lB aB iC aC) H → va_D A (zzK ad cy (ad 11) (ad 18) iK lK aK iB lB aB iC aC) → va_S A s.heap H locs → lv_has ls 11 [(0, .ref (ad 0)), (3, .ref (ad 6)), (5, .int v5), (6, .int v6), (7, .int v7), (8, .long v8), (10, .int v10)] → W p l e ({ frames := 2, cells := 0, slots := 0, locals := 42 } : Room) s m args below meth c H locs 0 0 QQ (F0 m 91 ls []) := by
    intro n
    induction n with
    | zero =>
      intro v5 v6 v7 k68 hk68 v8 v10 H locs ls h hP hD hS hl
      rw [f_K_leastMeeting_standing_91] at h
      cases h
    | succ n ih =>
      intro v5 v6 v7 k68 hk68 v8 v10 H locs ls h hP hD hS hl
      rw [f_K_leastMeeting_standing_91] at h
      refine lv_iload hx hb dX2_leastMeeting_91 (lv_at hl 6 rfl) ?_
      refine lv_bipush (v := 9) hx hb dX2_leastMeeting_93 (by decide) ?_
      refine lv_icmp_ge (tgt := 176) hx hb dX2_leastMeeting_95 (by decide) (fun cz => ?_) (fun cz => ?_)
      · have h := g_t h cz
        exact B176 v5 v6 v7 v8 k68 hk68 H locs ls h hP hD hS (lv_sub hl [0, 1, 2, 3, 4, 5] rfl)
      · have h := g_f h cz
        refine lv_lload hx hb dX2_leastMeeting_98 (lv_at hl 5 rfl) ?_
        refine lv_lconst (v := 0) hx hb dX2_leastMeeting_100 (by decide) ?_
        refine W.lcmp hx hb dX2_leastMeeting_101 ?_
        refine lv_if_eq (tgt := 176) hx hb dX2_leastMeeting_102 (by decide) (fun cz => ?_) (fun cz => ?_)
        · have h := g_t h (lg_cmp0.mp cz)
          exact B176 v5 v6 v7 v8 k68 hk68 H locs ls h hP hD hS (lv_sub hl [0, 1, 2, 3, 4, 5] rfl)
        · have h := g_f h (fun z => cz (lg_cmp0.mpr z))
          refine lv_iload hx hb dX2_leastMeeting_105 (lv_at hl 2 rfl) ?_
          refine lv_iload hx hb dX2_leastMeeting_107 (lv_at hl 6 rfl) ?_
          refine lv_ishr hx hb dX2_leastMeeting_109 ?_
          refine lv_iconst (v := 1) hx hb dX2_leastMeeting_110 (by decide) ?_
          refine lv_iand hx hb dX2_leastMeeting_111 ?_
          refine lv_iconst (v := 1) hx hb dX2_leastMeeting_112 (by decide) ?_
          refine lv_icmp_ne (tgt := 137) hx hb dX2_leastMeeting_113 (by decide) (fun cz => ?_) (fun cz => ?_)
          · have h := g_f h cz
            refine lv_iload hx hb dX2_leastMeeting_137 (lv_at hl 3 rfl) ?_
            refine lv_iload hx hb dX2_leastMeeting_139 (lv_at hl 6 rfl) ?_
            refine lv_ishr hx hb dX2_leastMeeting_141 ?_
            refine lv_iconst (v := 1) hx hb dX2_leastMeeting_142 (by decide) ?_
            refine lv_iand hx hb dX2_leastMeeting_143 ?_
            refine lv_iconst (v := 1) hx hb dX2_leastMeeting_144 (by decide) ?_
            refine lv_icmp_ne (tgt := 170) hx hb dX2_leastMeeting_145 (by decide) (fun cz => ?_) (fun cz => ?_)
            · have h := g_f h cz
              refine lv_iinc (v := (v10 + (1 : Int32))) (lv' := [(10, .int ((v10 + (1 : Int32)))), (0, .ref (ad 0)), (3, .ref (ad 6)), (5, .int v5), (6, .int v6), (7, .int v7), (8, .long v8)]) hx hb dX2_leastMeeting_170 hl (k := 6) rfl rfl (by decide) rfl (fun ls hl => ?_)
              refine lv_goto (tgt := 91) hx hb dX2_leastMeeting_173 (by decide) ?_
              exact ih v5 v6 v7 k68 hk68 v8 ((v10 + (1 : Int32))) H locs ls h hP hD hS (lv_sub hl [1, 2, 3, 4, 5, 6, 0] rfl)
            · have h := g_t h cz
              refine lv_lload hx hb dX2_leastMeeting_148 (lv_at hl 5 rfl) ?_
              refine lv_aload_n hx hb dX2_leastMeeting_150 rfl (lv_at hl 0 rfl) ?_
              refine va_get (D := (dC, dI)) (ci := 2) (v := .ref (ad 2)) (C := RX2) (T := TX2) (N := 15) hx hb hts ki2 hown hK hP 0 rfl rfl 4 (by decide) kf15 (fun _ h9 => h9) rfl dX2_leastMeeting_151 ?_
              refine lv_iload hx hb dX2_leastMeeting_154 (lv_at hl 6 rfl) ?_
              refine lv_bipush (v := 8) hx hb dX2_leastMeeting_156 (by decide) ?_
              refine lv_imul hx hb dX2_leastMeeting_158 ?_
              refine lv_iload hx hb dX2_leastMeeting_159 (lv_at hl 4 rfl) ?_
              refine lv_iadd hx hb dX2_leastMeeting_161 ?_
              obtain ⟨g_25, h⟩ := g_n h
              refine va_lald (f := (lK 4)) hx hb hK hP 2 2 rfl rfl g_25 dX2_leastMeeting_162 ?_
              refine lv_ldc2 (v := (-1)) hx hb hown kc88 dX2_leastMeeting_163 ?_
              refine lv_lxor hx hb dX2_leastMeeting_166 ?_
              refine lv_land hx hb dX2_leastMeeting_167 ?_
              refine lv_lstore (lv' := [(8, .long ((v8 &&& (((lK 4) (((v10 * (8 : Int32)) + v7)).toNatClampNeg) ^^^ (-1 : Int64))))), (0, .ref (ad 0)), (3, .ref (ad 6)), (5, .int v5), (6, .int v6), (7, .int v7), (10, .int v10)]) hx hb dX2_leastMeeting_168 hl (by decide) rfl (fun ls hl => ?_)
              refine lv_iinc (v := (v10 + (1 : Int32))) (lv' := [(10, .int ((v10 + (1 : Int32)))), (8, .long ((v8 &&& (((lK 4) (((v10 * (8 : Int32)) + v7)).toNatClampNeg) ^^^ (-1 : Int64))))), (0, .ref (ad 0)), (3, .ref (ad 6)), (5, .int v5), (6, .int v6), (7, .int v7)]) hx hb dX2_leastMeeting_170 hl (k := 6) rfl rfl (by decide) rfl (fun ls hl => ?_)
              refine lv_goto (tgt := 91) hx hb dX2_leastMeeting_173 (by decide) ?_
              exact ih v5 v6 v7 k68 hk68 ((v8 &&& (((lK 4) (((v10 * (8 : Int32)) + v7)).toNatClampNeg) ^^^ (-1 : Int64)))) ((v10 + (1 : Int32))) H locs ls h hP hD hS (lv_sub hl [2, 3, 4, 5, 6, 1, 0] rfl)
          · have h := g_t h cz
            refine lv_lload hx hb dX2_leastMeeting_116 (lv_at hl 5 rfl) ?_
            refine lv_aload_n hx hb dX2_leastMeeting_118 rfl (lv_at hl 0 rfl) ?_
            refine va_get (D := (dC, dI)) (ci := 2) (v := .ref (ad 2)) (C := RX2) (T := TX2) (N := 15) hx hb hts ki2 hown hK hP 0 rfl rfl 4 (by decide) kf15 (fun _ h9 => h9) rfl dX2_leastMeeting_119 ?_
            refine lv_iload hx hb dX2_leastMeeting_122 (lv_at hl 6 rfl) ?_
            refine lv_bipush (v := 8) hx hb dX2_leastMeeting_124 (by decide) ?_
            refine lv_imul hx hb dX2_leastMeeting_126 ?_
            refine lv_iload hx hb dX2_leastMeeting_127 (lv_at hl 4 rfl) ?_
            refine lv_iadd hx hb dX2_leastMeeting_129 ?_
            obtain ⟨g_25, h⟩ := g_n h
            refine va_lald (f := (lK 4)) hx hb hK hP 2 2 rfl rfl g_25 dX2_leastMeeting_130 ?_
            refine lv_land hx hb dX2_leastMeeting_131 ?_
            refine lv_lstore (lv' := [(8, .long ((v8 &&& ((lK 4) (((v10 * (8 : Int32)) + v7)).toNatClampNeg)))), (0, .ref (ad 0)), (3, .ref (ad 6)), (5, .int v5), (6, .int v6), (7, .int v7), (10, .int v10)]) hx hb dX2_leastMeeting_132 hl (by decide) rfl (fun ls hl => ?_)
            refine lv_goto (tgt := 170) hx hb dX2_leastMeeting_134 (by decide) ?_
            refine lv_iinc (v := (v10 + (1 : Int32))) (lv' := [(10, .int ((v10 + (1 : Int32)))), (8, .long ((v8 &&& ((lK 4) (((v10 * (8 : Int32)) + v7)).toNatClampNeg)))), (0, .ref (ad 0)), (3, .ref (ad 6)), (5, .int v5), (6, .int v6), (7, .int v7)]) hx hb dX2_leastMeeting_170 hl (k := 6) rfl rfl (by decide) rfl (fun ls hl => ?_)
            refine lv_goto (tgt := 91) hx hb dX2_leastMeeting_173 (by decide) ?_
            exact ih v5 v6 v7 k68 hk68 ((v8 &&& ((lK 4) (((v10 * (8 : Int32)) + v7)).toNatClampNeg))) ((v10 + (1 : Int32))) H locs ls h hP hD hS (lv_sub hl [2, 3, 4, 5, 6, 1, 0] rfl)
  have B68 : ∀ (n : Nat) (v5 : Int32) (v6 : Int32) (v7 : Int32) (H : Heap) (locs : List Loc) (ls : Array Slot), f_K_leastMeeting_standing_68 N (iB 13) (iC 9) (aC 5) (lK 4) (lK 9) (aK 5) (aK 6) v5 v6 n v7 = some q → va_P (dC, dI) vwCl (zzK ad cy (ad 11) (ad 18) iK lK aK iB lB aB iC aC) H → va_D A (zzK ad cy (ad 11) (ad 18) iK lK aK iB lB aB iC aC) → va_S A s.heap H locs → lv_has ls 11 [(0, .ref (ad 0)), (3, .ref (ad 6)), (5, .int v5), (6, .int v6), (7, .int v7)] → W p l e ({ frames := 2, cells := 0, slots := 0, locals := 42 } : Room) s m args below meth c H locs 0 0 QQ (F0 m 68 ls []) := by
    intro n
    induction n with
    | zero =>
      intro v5 v6 v7 H locs ls h hP hD hS hl
      rw [f_K_leastMeeting_standing_68] at h
      cases h
    | succ n ih =>
      intro v5 v6 v7 H locs ls h hP hD hS hl
      rw [f_K_leastMeeting_standing_68] at h
      refine lv_iload hx hb dX2_leastMeeting_68 (lv_at hl 4 rfl) ?_
      refine lv_bipush (v := 8) hx hb dX2_leastMeeting_70 (by decide) ?_
      refine lv_icmp_ge (tgt := 201) hx hb dX2_leastMeeting_72 (by decide) (fun cz => ?_) (fun cz => ?_)
      · have h := g_t h cz
        refine lv_iconst (v := (-1)) hx hb dX2_leastMeeting_201 (by decide) ?_
        have h' := Option.some.inj h
        rw [← hQQ]
        exact W.iret (v := (-1 : Int32)) hx hb hr (fun t ht hW => ⟨⟨(-1 : Int32), (), rfl, by rw [← h'], by rw [← hWQ, ht]; exact hP, va_K.moved hW.alike hK⟩, hS.F ht⟩) hS.2.2 dX2_leastMeeting_202
      · have h := g_f h cz
        refine lv_iload hx hb dX2_leastMeeting_75 (lv_at hl 4 rfl) ?_
        refine lv_aload_n hx hb dX2_leastMeeting_77 rfl (lv_at hl 1 rfl) ?_
        refine va_alen (v := (8 : Int32)) hx hb hK hP 6 2 rfl rfl rfl dX2_leastMeeting_78 ?_
        refine lv_icmp_ge (tgt := 201) hx hb dX2_leastMeeting_79 (by decide) (fun cz => ?_) (fun cz => ?_)
        · have h := g_t h cz
          refine lv_iconst (v := (-1)) hx hb dX2_leastMeeting_201 (by decide) ?_
          have h' := Option.some.inj h
          rw [← hQQ]
          exact W.iret (v := (-1 : Int32)) hx hb hr (fun t ht hW => ⟨⟨(-1 : Int32), (), rfl, by rw [← h'], by rw [← hWQ, ht]; exact hP, va_K.moved hW.alike hK⟩, hS.F ht⟩) hS.2.2 dX2_leastMeeting_202
        · have h := g_f h cz
          refine lv_aload_n hx hb dX2_leastMeeting_82 rfl (lv_at hl 1 rfl) ?_
          refine lv_iload hx hb dX2_leastMeeting_83 (lv_at hl 4 rfl) ?_
          obtain ⟨g_26, h⟩ := g_n h
          refine va_lald (f := (lK 9)) hx hb hK hP 6 2 rfl rfl g_26 dX2_leastMeeting_85 ?_
          refine lv_lstore (lv' := [(8, .long (((lK 9) v7.toNatClampNeg))), (0, .ref (ad 0)), (3, .ref (ad 6)), (5, .int v5), (6, .int v6), (7, .int v7)]) hx hb dX2_leastMeeting_86 hl (by decide) rfl (fun ls hl => ?_)
          refine lv_iconst (v := 0) hx hb dX2_leastMeeting_88 (by decide) ?_
          refine lv_istore (lv' := [(10, .int ((0 : Int32))), (8, .long (((lK 9) v7.toNatClampNeg))), (0, .ref (ad 0)), (3, .ref (ad 6)), (5, .int v5), (6, .int v6), (7, .int v7)]) hx hb dX2_leastMeeting_89 hl (by decide) rfl (fun ls hl => ?_)
          exact B91 N v5 v6 v7 (f_K_leastMeeting_standing_68 N (iB 13) (iC 9) (aC 5) (lK 4) (lK 9) (aK 5) (aK 6) v5 v6 n) (ih v5 v6) (((lK 9) v7.toNatClampNeg)) ((0 : Int32)) H locs ls h hP hD hS (lv_sub hl [2, 3, 4, 5, 6, 1, 0] rfl)
  have B50 : ∀ (v1 : Int32) (v4 : Int32) (s0 : Int32) (H : Heap) (locs : List Loc) (ls : Array Slot), f_K_leastMeeting_standing_50 N (iB 13) (iC 9) (aC 5) (lK 4) (lK 9) (aK 5) (aK 6) v1 v4 s0 = some q → va_P (dC, dI) vwCl (zzK ad cy (ad 11) (ad 18) iK lK aK iB lB aB iC aC) H → va_D A (zzK ad cy (ad 11) (ad 18) iK lK aK iB lB aB iC aC) → va_S A s.heap H locs → lv_has ls 11 [(0, .ref (ad 0)), (1, .int v1), (3, .ref (ad 6)), (4, .int v4)] → W p l e ({ frames := 2, cells := 0, slots := 0, locals := 42 } : Room) s m args below meth c H locs 0 0 QQ (F0 m 50 ls [.int s0]) := by
    intro v1 v4 s0 H locs ls h hP hD hS hl
    unfold f_K_leastMeeting_standing_50 at h
    refine lv_istore (lv' := [(5, .int s0), (0, .ref (ad 0)), (1, .int v1), (3, .ref (ad 6)), (4, .int v4)]) hx hb dX2_leastMeeting_50 hl (by decide) rfl (fun ls hl => ?_)
    refine lv_aload_n hx hb dX2_leastMeeting_52 rfl (lv_at hl 1 rfl) ?_
    refine va_get (D := (dC, dI)) (ci := 2) (v := .ref (ad 4)) (C := RX2) (T := TX2) (N := 15) hx hb hts ki2 hown hK hP 0 rfl rfl 6 (by decide) kf22 (fun _ h9 => h9) rfl dX2_leastMeeting_53 ?_
    refine lv_iload hx hb dX2_leastMeeting_56 (lv_at hl 4 rfl) ?_
    obtain ⟨g_17, h⟩ := g_n h
    refine va_iald (f := (aK 6)) hx hb hK hP 4 0 rfl rfl g_17 dX2_leastMeeting_58 ?_
    refine lv_iload_n hx hb dX2_leastMeeting_59 rfl (lv_at hl 2 rfl) ?_
    refine lv_iconst (v := (-1)) hx hb dX2_leastMeeting_60 (by decide) ?_
    refine lv_ixor hx hb dX2_leastMeeting_61 ?_
    refine lv_iand hx hb dX2_leastMeeting_62 ?_
    refine lv_istore (lv' := [(6, .int ((((aK 6) v4.toNatClampNeg) &&& (v1 ^^^ (-1 : Int32))))), (5, .int s0), (0, .ref (ad 0)), (1, .int v1), (3, .ref (ad 6)), (4, .int v4)]) hx hb dX2_leastMeeting_63 hl (by decide) rfl (fun ls hl => ?_)
    refine lv_iconst (v := 0) hx hb dX2_leastMeeting_65 (by decide) ?_
    refine lv_istore (lv' := [(7, .int ((0 : Int32))), (6, .int ((((aK 6) v4.toNatClampNeg) &&& (v1 ^^^ (-1 : Int32))))), (5, .int s0), (0, .ref (ad 0)), (1, .int v1), (3, .ref (ad 6)), (4, .int v4)]) hx hb dX2_leastMeeting_66 hl (by decide) rfl (fun ls hl => ?_)
    exact B68 N s0 ((((aK 6) v4.toNatClampNeg) &&& (v1 ^^^ (-1 : Int32)))) ((0 : Int32)) H locs ls h hP hD hS (lv_sub hl [3, 5, 2, 1, 0] rfl)
  intro H locs hP hD hS
  unfold f_K_leastMeeting_standing at h
  refine lv_aload_n hx hb dX2_leastMeeting_0 rfl (lv_at hl 0 rfl) ?_
  refine va_get (D := (dC, dI)) (ci := 2) (v := .ref (ad 18)) (C := RX2) (T := TX2) (N := 15) hx hb hts ki2 hown hK hP 0 rfl rfl 1 (by decide) kf54 (fun _ h9 => h9) rfl dX2_leastMeeting_1 ?_
  refine lv_iload_n hx hb dX2_leastMeeting_4 rfl (lv_at hl 2 rfl) ?_
  obtain ⟨q5, e5, h⟩ := g_b h
  refine callVi (cc := cX2_leastMeeting) (ws' := zzK ad cy (ad 11) (ad 18) iK lK aK iB lB aB iC aC) (As := [.int a2]) (rest := []) ⟨hx, hb, hml, hown, hts⟩ (c_C_roleOfAtom l dC dI cy (fun i => ad (i + 18)) H.size a2 iC aC q5 e5) (cwV 1 hts (goodV m_ml_X2_147 m_im_X1_roleOfAtom m_se_X1_roleOfAtom m_in_X1 m_cd_X1_roleOfAtom) rfl rfl rfl (by decide +kernel) ⟨Nat.le_of_ble_eq_true rfl, Nat.le_of_ble_eq_true rfl⟩) hN hK hP hD hS hA [18, 19, 20, 21, 22, 23, 24, 25, 26] [none, none, none, none, none, none, none, none, none, none, none, none, none, none, none, none, none, none, some 0, some 1, some 2, some 3, some 4, some 5, some 6, some 7, some 8] rfl rfl rfl rfl rfl rfl 18 rfl rfl rfl hl.1 rfl (Nat.le_of_ble_eq_true rfl) dX2_leastMeeting_5 ⟨Nat.zero_le _, Nat.zero_le _⟩ (fun H locs hP hD hS => ?_)
  refine lv_istore (lv' := [(4, .int q5), (0, .ref (ad 0)), (1, .int a1), (2, .int a2), (3, .ref (ad 6))]) hx hb dX2_leastMeeting_8 hl (by decide) rfl (fun ls hl => ?_)
  refine lv_iload hx hb dX2_leastMeeting_10 (lv_at hl 0 rfl) ?_
  refine lv_if_lt (tgt := 21) hx hb dX2_leastMeeting_12 (by decide) (fun cz => ?_) (fun cz => ?_)
  · have h := g_t h cz
    refine lv_iconst (v := (-1)) hx hb dX2_leastMeeting_21 (by decide) ?_
    have h' := Option.some.inj h
    rw [← hQQ]
    exact W.iret (v := (-1 : Int32)) hx hb hr (fun t ht hW => ⟨⟨(-1 : Int32), (), rfl, by rw [← h'], by rw [← hWQ, ht]; exact hP, va_K.moved hW.alike hK⟩, hS.F ht⟩) hS.2.2 dX2_leastMeeting_22
  · have h := g_f h cz
    refine lv_iload hx hb dX2_leastMeeting_15 (lv_at hl 0 rfl) ?_
    refine lv_iconst (v := 3) hx hb dX2_leastMeeting_17 (by decide) ?_
    refine lv_icmp_lt (tgt := 23) hx hb dX2_leastMeeting_18 (by decide) (fun cz => ?_) (fun cz => ?_)
    · have h := g_t h cz
      refine lv_aload_n hx hb dX2_leastMeeting_23 rfl (lv_at hl 1 rfl) ?_
      refine va_get (D := (dC, dI)) (ci := 2) (v := .ref (ad 11)) (C := RX2) (T := TX2) (N := 15) hx hb hts ki2 hown hK hP 0 rfl rfl 0 (by decide) kf44 (fun _ h9 => h9) rfl dX2_leastMeeting_24 ?_
      refine lv_iload hx hb dX2_leastMeeting_27 (lv_at hl 0 rfl) ?_
      obtain ⟨q29, e29, h⟩ := g_b h
      refine callVi (cc := cX2_leastMeeting) (ws' := zzK ad cy (ad 11) (ad 18) iK lK aK iB lB aB iC aC) (As := [.int q5]) (rest := []) ⟨hx, hb, hml, hown, hts⟩ (c_B_isSingle l dC dI cy (fun i => ad (i + 11)) H.size q5 iB lB aB iC aC q29 e29) (cwV 1 hts (goodV m_ml_X2_177 m_im_X0_isSingle m_se_X0_isSingle m_in_X0 m_cd_X0_isSingle) rfl rfl rfl (by decide +kernel) ⟨Nat.le_of_ble_eq_true rfl, Nat.le_of_ble_eq_true rfl⟩) hN hK hP hD hS hA [11, 12, 13, 14, 15, 16, 17, 18, 19, 20, 21, 22, 23, 24, 25, 26] [none, none, none, none, none, none, none, none, none, none, none, some 0, some 1, some 2, some 3, some 4, some 5, some 6, some 7, some 8, some 9, some 10, some 11, some 12, some 13, some 14, some 15] rfl rfl rfl rfl rfl rfl 11 rfl rfl rfl hl.1 rfl (Nat.le_of_ble_eq_true rfl) dX2_leastMeeting_29 ⟨Nat.zero_le _, Nat.zero_le _⟩ (fun H locs hP hD hS => ?_)
      refine lv_if_eq (tgt := 47) hx hb dX2_leastMeeting_32 (by decide) (fun cz => ?_) (fun cz => ?_)
      · have h := g_t h cz
        refine lv_iconst (v := 1) hx hb dX2_leastMeeting_47 (by decide) ?_
        refine lv_iload_n hx hb dX2_leastMeeting_48 rfl (lv_at hl 3 rfl) ?_
        refine lv_ishl hx hb dX2_leastMeeting_49 ?_
        exact B50 a1 q5 (((1 : Int32) <<< (a2 &&& 31))) H locs ls h hP hD hS (lv_sub hl [1, 2, 4, 0] rfl)
      · have h := g_f h cz
        refine lv_aload_n hx hb dX2_leastMeeting_35 rfl (lv_at hl 1 rfl) ?_
        refine va_get (D := (dC, dI)) (ci := 2) (v := .ref (ad 3)) (C := RX2) (T := TX2) (N := 15) hx hb hts ki2 hown hK hP 0 rfl rfl 5 (by decide) kf18 (fun _ h9 => h9) rfl dX2_leastMeeting_36 ?_
        refine lv_iload hx hb dX2_leastMeeting_39 (lv_at hl 0 rfl) ?_
        obtain ⟨g_27, h⟩ := g_n h
        refine va_iald (f := (aK 5)) hx hb hK hP 3 0 rfl rfl g_27 dX2_leastMeeting_41 ?_
        refine lv_iload_n hx hb dX2_leastMeeting_42 rfl (lv_at hl 2 rfl) ?_
        refine lv_iand hx hb dX2_leastMeeting_43 ?_
        refine lv_goto (tgt := 50) hx hb dX2_leastMeeting_44 (by decide) ?_
        exact B50 a1 q5 ((((aK 5) q5.toNatClampNeg) &&& a1)) H locs ls h hP hD hS (lv_sub hl [1, 2, 4, 0] rfl)
    · have h := g_f h cz
      refine lv_iconst (v := (-1)) hx hb dX2_leastMeeting_21 (by decide) ?_
      have h' := Option.some.inj h
      rw [← hQQ]
      exact W.iret (v := (-1 : Int32)) hx hb hr (fun t ht hW => ⟨⟨(-1 : Int32), (), rfl, by rw [← h'], by rw [← hWQ, ht]; exact hP, va_K.moved hW.alike hK⟩, hS.F ht⟩) hS.2.2 dX2_leastMeeting_22
set_option maxHeartbeats 8000000 in
set_option maxRecDepth 100000 in
theorem c_W_addEdges (l : Launch) (dC : Nat → ClassId) (dI : Nat → Nat → Nat) (cy : Nat → ClassId) (ad : Nat → Nat) (sz : Nat) (N : Nat) (a2 : Int32) (iW : Nat → Int32) (aW : Nat → Nat → Int32) (iK : Nat → Int32) (lK : Nat → Nat → Int64) (aK : Nat → Nat → Int32) (iB : Nat → Int32) (lB : Nat → Nat → Int64) (aB : Nat → Nat → Int32) (iC : Nat → Int32) (aC : Nat → Nat → Int32) (q : Int32 × Int32 × (Nat → Int32) × (Nat → Int32) × (Nat → Int32)) (h : f_W_addEdges N a2 (iB 13) (iC 9) (aC 5) (lK 4) (lK 9) (aK 5) (aK 6) (iW 1) (iW 4) (aW 0) (aW 2) (aW 3) = some q) : Met l yX6_addEdges wsX6_addEdges ({ frames := 3, cells := 0, slots := 0, locals := 72 } : Room) (cP (dC, dI) cy [.ref (ad 0), .ref (ad 4), .int a2] (zzW ad cy (ad 15) (ad 22) iW aW iK lK aK iB lB aB iC aC) sz) (cQv (dC, dI) cy (zzW ad cy (ad 15) (ad 22) (us iW [(1, q.1), (4, q.2.1)]) (us aW [(0, q.2.2.1), (2, q.2.2.2.1), (3, q.2.2.2.2)]) iK lK aK iB lB aB iC aC) (va_A (zzW ad cy (ad 15) (ad 22) iW aW iK lK aK iB lB aB iC aC) sz)) 0 0 (va_A (zzW ad cy (ad 15) (ad 22) iW aW iK lK aK iB lB aB iC aC) sz) := by
  refine Met.ofW (cc := cX6_addEdges) (maxL := 7) (ret := none) (by decide) rfl ?_
  intro p e s m args below meth c s₁ B hml hv
  obtain ⟨hav, hsz, hP, hK, hD0, hN⟩ := hv
  have hx := B.exec
  have hb := B.bytes
  have hr := B.returns
  have hts := atoms_spec (ws := wsX6_addEdges) B.pre
  have hown : s.vm.findClass RX6 = some m.cls := findClass_of_methodNamed B.named
  have hlocks := B.notSynchronized
  subst hsz
  have hD := hD0.self (sz := s.heap.size)
  generalize hAe : va_A (zzW ad cy (ad 15) (ad 22) iW aW iK lK aK iB lB aB iC aC) s.heap.size = A at hD ⊢
  have hA : ∀ q : Nat, s.heap.size ≤ q → A q := fun q h => by rw [← hAe]; exact Or.inr h
  have hS : va_S A s.heap s.heap [] := va_S.rf
  generalize hWQ : (zzW ad cy (ad 15) (ad 22) (us iW [(1, q.1), (4, q.2.1)]) (us aW [(0, q.2.2.1), (2, q.2.2.2.1), (3, q.2.2.2.2)]) iK lK aK iB lB aB iC aC) = WQ
  generalize hQQ : MQ below (cQv (dC, dI) cy WQ A) args s 0 0 A = QQ
  have hl := lv_entry ([.ref (ad 0), .ref (ad 4), .int a2] : List Value) (n := 7) (Nat.le_of_ble_eq_true rfl)
  have hfr := lg_entry_eq m ([.ref (ad 0), .ref (ad 4), .int a2] : List Value) 7
  rw [← hav] at hfr
  rw [hfr]
  clear hfr hav
  generalize (lg_sl ([.ref (ad 0), .ref (ad 4), .int a2] : List Value) ++ List.replicate (7 - (lg_sl ([.ref (ad 0), .ref (ad 4), .int a2] : List Value)).length) Slot.unset).toArray = ls at hl ⊢
  have hl : lv_has ls 7 [(0, .ref (ad 0)), (1, .ref (ad 4)), (2, .int a2)] := hl
  have kf32 := hts _ (List.mem_cons_of_mem _ m_fl_X6_32)
  have ki2 := (fun w h => List.mem_cons_of_mem _ (i_X2 w h) : ∀ w ∈ u_ws RX2 TX2 15, w ∈ wsX6_addEdges)
  have kf26 := hts _ (List.mem_cons_of_mem _ m_fl_X6_26)
  have ki6 := (fun w h => List.mem_cons_of_mem _ (i_X6 w h) : ∀ w ∈ u_ws RX6 TX6 5, w ∈ wsX6_addEdges)
  have kf18 := hts _ (List.mem_cons_of_mem _ m_fl_X6_18)
  have kf9 := hts _ (List.mem_cons_of_mem _ m_fl_X6_9)
  refine (?_ : ∀ (H : Heap) (locs : List Loc), va_P (dC, dI) vwCl (zzW ad cy (ad 15) (ad 22) iW aW iK lK aK iB lB aB iC aC) H → va_D A (zzW ad cy (ad 15) (ad 22) iW aW iK lK aK iB lB aB iC aC) → va_S A s.heap H locs → W p l e ({ frames := 3, cells := 0, slots := 0, locals := 72 } : Room) s m args below meth c H locs 0 0 QQ (F0 m 0 ls [])) s.heap [] hP hD hS
  clear hP hD hS
  have B10 : ∀ (n : Nat) (v2 : Int32) (v3 : Int32) (v4 : Int32) (x_iW1 : Int32) (x_iW4 : Int32) (x_aW0 : Nat → Int32) (x_aW2 : Nat → Int32) (x_aW3 : Nat → Int32) (H : Heap) (locs : List Loc) (ls : Array Slot), f_W_addEdges_10 N (iB 13) (iC 9) (aC 5) (lK 4) (lK 9) (aK 5) (aK 6) (iW 1) (iW 4) (aW 0) (aW 2) (aW 3) v2 v3 n v4 x_iW1 x_iW4 x_aW0 x_aW2 x_aW3 = some q → va_P (dC, dI) vwCl (zzW ad cy (ad 15) (ad 22) (us iW [(1, x_iW1), (4, x_iW4)]) (us aW [(0, x_aW0), (2, x_aW2), (3, x_aW3)]) iK lK aK iB lB aB iC aC) H → va_D A (zzW ad cy (ad 15) (ad 22) (us iW [(1, x_iW1), (4, x_iW4)]) (us aW [(0, x_aW0), (2, x_aW2), (3, x_aW3)]) iK lK aK iB lB aB iC aC) → va_S A s.heap H locs → lv_has ls 7 [(0, .ref (ad 0)), (1, .ref (ad 4)), (2, .int v2), (3, .int v3), (4, .int v4)] → W p l e ({ frames := 3, cells := 0, slots := 0, locals := 72 } : Room) s m args below meth c H locs 0 0 QQ (F0 m 10 ls []) := by
    intro n
    induction n with
    | zero =>
      intro v2 v3 v4 x_iW1 x_iW4 x_aW0 x_aW2 x_aW3 H locs ls h hP hD hS hl
      rw [f_W_addEdges_10] at h
      cases h
    | succ n ih =>
      intro v2 v3 v4 x_iW1 x_iW4 x_aW0 x_aW2 x_aW3 H locs ls h hP hD hS hl
      rw [f_W_addEdges_10] at h
      refine lv_iload hx hb dX6_addEdges_10 (lv_at hl 4 rfl) ?_
      refine lv_bipush (v := 9) hx hb dX6_addEdges_12 (by decide) ?_
      refine lv_icmp_ge (tgt := 119) hx hb dX6_addEdges_14 (by decide) (fun cz => ?_) (fun cz => ?_)
      · have h := g_t h cz
        have h' := Option.some.inj h
        rw [← hQQ]
        exact W.vret hx hb hr (fun t ht hW => ⟨⟨(), rfl, trivial, by rw [← hWQ, ← h', ht]; exact hP, va_K.moved hW.alike hK⟩, hS.F ht⟩) hS.2.2 dX6_addEdges_119
      · have h := g_f h cz
        refine lv_iload_n hx hb dX6_addEdges_17 rfl (lv_at hl 3 rfl) ?_
        refine lv_iload hx hb dX6_addEdges_18 (lv_at hl 4 rfl) ?_
        refine lv_ishr hx hb dX6_addEdges_20 ?_
        refine lv_iconst (v := 1) hx hb dX6_addEdges_21 (by decide) ?_
        refine lv_iand hx hb dX6_addEdges_22 ?_
        refine lv_iconst (v := 1) hx hb dX6_addEdges_23 (by decide) ?_
        refine lv_icmp_ne (tgt := 113) hx hb dX6_addEdges_24 (by decide) (fun cz => ?_) (fun cz => ?_)
        · have h := g_f h cz
          refine lv_iinc (v := (v4 + (1 : Int32))) (lv' := [(4, .int ((v4 + (1 : Int32)))), (0, .ref (ad 0)), (1, .ref (ad 4)), (2, .int v2), (3, .int v3)]) hx hb dX6_addEdges_113 hl (k := 4) rfl rfl (by decide) rfl (fun ls hl => ?_)
          refine lv_goto (tgt := 10) hx hb dX6_addEdges_116 (by decide) ?_
          exact ih v2 v3 ((v4 + (1 : Int32))) x_iW1 x_iW4 x_aW0 x_aW2 x_aW3 H locs ls h hP hD hS (lv_sub hl [1, 2, 3, 4, 0] rfl)
        · have h := g_t h cz
          refine lv_aload_n hx hb dX6_addEdges_27 rfl (lv_at hl 1 rfl) ?_
          refine lv_iload_n hx hb dX6_addEdges_28 rfl (lv_at hl 3 rfl) ?_
          refine lv_iload hx hb dX6_addEdges_29 (lv_at hl 4 rfl) ?_
          obtain ⟨q31, e31, h⟩ := g_b h
          refine callVi (cc := cX6_addEdges) (ws' := zzW ad cy (ad 15) (ad 22) (us iW [(1, x_iW1), (4, x_iW4)]) (us aW [(0, x_aW0), (2, x_aW2), (3, x_aW3)]) iK lK aK iB lB aB iC aC) (As := [.int v3, .int v4]) (rest := []) ⟨hx, hb, hml, hown, hts⟩ (c_K_isServed l dC dI cy (fun i => ad (i + 4)) H.size v3 v4 iK lK aK iB lB aB iC aC q31 e31) (cwV 2 hts (goodV m_ml_X6_50 m_im_X2_isServed m_se_X2_isServed m_in_X2 m_cd_X2_isServed) rfl rfl rfl (by decide +kernel) ⟨Nat.le_of_ble_eq_true rfl, Nat.le_of_ble_eq_true rfl⟩) hN hK hP hD hS hA [4, 5, 6, 7, 8, 9, 10, 11, 12, 13, 14, 15, 16, 17, 18, 19, 20, 21, 22, 23, 24, 25, 26, 27, 28, 29, 30] [none, none, none, none, some 0, some 1, some 2, some 3, some 4, some 5, some 6, some 7, some 8, some 9, some 10, some 11, some 12, some 13, some 14, some 15, some 16, some 17, some 18, some 19, some 20, some 21, some 22, some 23, some 24, some 25, some 26] rfl rfl rfl rfl rfl rfl 4 rfl rfl rfl hl.1 rfl (Nat.le_of_ble_eq_true rfl) dX6_addEdges_31 ⟨Nat.zero_le _, Nat.zero_le _⟩ (fun H locs hP hD hS => ?_)
          refine lv_if_ne (tgt := 113) hx hb dX6_addEdges_34 (by decide) (fun cz => ?_) (fun cz => ?_)
          · have h := g_f h cz
            refine lv_iinc (v := (v4 + (1 : Int32))) (lv' := [(4, .int ((v4 + (1 : Int32)))), (0, .ref (ad 0)), (1, .ref (ad 4)), (2, .int v2), (3, .int v3)]) hx hb dX6_addEdges_113 hl (k := 4) rfl rfl (by decide) rfl (fun ls hl => ?_)
            refine lv_goto (tgt := 10) hx hb dX6_addEdges_116 (by decide) ?_
            exact ih v2 v3 ((v4 + (1 : Int32))) x_iW1 x_iW4 x_aW0 x_aW2 x_aW3 H locs ls h hP hD hS (lv_sub hl [1, 2, 3, 4, 0] rfl)
          · have h := g_t h cz
            refine lv_aload_n hx hb dX6_addEdges_37 rfl (lv_at hl 1 rfl) ?_
            refine lv_iload_n hx hb dX6_addEdges_38 rfl (lv_at hl 3 rfl) ?_
            refine lv_iload hx hb dX6_addEdges_39 (lv_at hl 4 rfl) ?_
            refine lv_aload_n hx hb dX6_addEdges_41 rfl (lv_at hl 1 rfl) ?_
            refine va_get (D := (dC, dI)) (ci := 2) (v := .ref (ad 10)) (C := RX2) (T := TX2) (N := 15) hx hb hts ki2 hown hK hP 4 rfl rfl 9 (by decide) kf32 (fun _ h9 => h9) rfl dX6_addEdges_42 ?_
            obtain ⟨q45, e45, h⟩ := g_b h
            refine callVi (cc := cX6_addEdges) (ws' := zzW ad cy (ad 15) (ad 22) (us iW [(1, x_iW1), (4, x_iW4)]) (us aW [(0, x_aW0), (2, x_aW2), (3, x_aW3)]) iK lK aK iB lB aB iC aC) (As := [.int v3, .int v4, .ref (ad 10)]) (rest := []) ⟨hx, hb, hml, hown, hts⟩ (c_K_leastMeeting_standing l dC dI cy (fun i => ad (i + 4)) H.size N v3 v4 iK lK aK iB lB aB iC aC q45 e45) (cwV 3 hts (goodV m_ml_X6_54 m_im_X2_leastMeeting m_se_X2_leastMeeting m_in_X2 m_cd_X2_leastMeeting) rfl rfl rfl (by decide +kernel) ⟨Nat.le_of_ble_eq_true rfl, Nat.le_of_ble_eq_true rfl⟩) hN hK hP hD hS hA [4, 5, 6, 7, 8, 9, 10, 11, 12, 13, 14, 15, 16, 17, 18, 19, 20, 21, 22, 23, 24, 25, 26, 27, 28, 29, 30] [none, none, none, none, some 0, some 1, some 2, some 3, some 4, some 5, some 6, some 7, some 8, some 9, some 10, some 11, some 12, some 13, some 14, some 15, some 16, some 17, some 18, some 19, some 20, some 21, some 22, some 23, some 24, some 25, some 26] rfl rfl rfl rfl rfl rfl 4 rfl rfl rfl hl.1 rfl (Nat.le_of_ble_eq_true rfl) dX6_addEdges_45 ⟨Nat.zero_le _, Nat.zero_le _⟩ (fun H locs hP hD hS => ?_)
            refine lv_istore (lv' := [(5, .int q45), (0, .ref (ad 0)), (1, .ref (ad 4)), (2, .int v2), (3, .int v3), (4, .int v4)]) hx hb dX6_addEdges_48 hl (by decide) rfl (fun ls hl => ?_)
            refine lv_iload hx hb dX6_addEdges_50 (lv_at hl 0 rfl) ?_
            refine lv_iconst (v := (-1)) hx hb dX6_addEdges_52 (by decide) ?_
            refine lv_icmp_eq (tgt := 113) hx hb dX6_addEdges_53 (by decide) (fun cz => ?_) (fun cz => ?_)
            · have h := g_t h cz
              refine lv_iinc (v := (v4 + (1 : Int32))) (lv' := [(4, .int ((v4 + (1 : Int32)))), (5, .int q45), (0, .ref (ad 0)), (1, .ref (ad 4)), (2, .int v2), (3, .int v3)]) hx hb dX6_addEdges_113 hl (k := 5) rfl rfl (by decide) rfl (fun ls hl => ?_)
              refine lv_goto (tgt := 10) hx hb dX6_addEdges_116 (by decide) ?_
              exact ih v2 v3 ((v4 + (1 : Int32))) x_iW1 x_iW4 x_aW0 x_aW2 x_aW3 H locs ls h hP hD hS (lv_sub hl [2, 3, 4, 5, 0] rfl)
            · have h := g_f h cz
              refine lv_aload_n hx hb dX6_addEdges_56 rfl (lv_at hl 1 rfl) ?_
              refine va_get (D := (dC, dI)) (ci := 6) (v := .int x_iW4) (C := RX6) (T := TX6) (N := 5) hx hb hts ki6 hown hK hP 0 rfl rfl 4 (by decide) kf26 (fun _ h9 => h9) rfl dX6_addEdges_57 ?_
              refine lv_sipush (v := 2304) hx hb dX6_addEdges_60 (by decide) ?_
              refine lv_icmp_ge (tgt := 113) hx hb dX6_addEdges_63 (by decide) (fun cz => ?_) (fun cz => ?_)
              · have h := g_t h cz
                refine lv_iinc (v := (v4 + (1 : Int32))) (lv' := [(4, .int ((v4 + (1 : Int32)))), (5, .int q45), (0, .ref (ad 0)), (1, .ref (ad 4)), (2, .int v2), (3, .int v3)]) hx hb dX6_addEdges_113 hl (k := 5) rfl rfl (by decide) rfl (fun ls hl => ?_)
                refine lv_goto (tgt := 10) hx hb dX6_addEdges_116 (by decide) ?_
                exact ih v2 v3 ((v4 + (1 : Int32))) x_iW1 x_iW4 x_aW0 x_aW2 x_aW3 H locs ls h hP hD hS (lv_sub hl [2, 3, 4, 5, 0] rfl)
              · have h := g_f h cz
                refine lv_aload_n hx hb dX6_addEdges_66 rfl (lv_at hl 2 rfl) ?_
                refine va_getN (D := (dC, dI)) (ci := 2) (v := .ref (ad 22)) (C := RX2) (T := TX2) (N := 15) hx hb hts ki2 hown hK hP 4 rfl rfl 1 (by decide) (va_Nw.use rfl hN.1) (fun _ h9 => h9) rfl dX6_addEdges_67 ?_
                refine lv_iload hx hb dX6_addEdges_70 (lv_at hl 5 rfl) ?_
                obtain ⟨q72, e72, h⟩ := g_b h
                refine callVi (cc := cX6_addEdges) (ws' := zzW ad cy (ad 15) (ad 22) (us iW [(1, x_iW1), (4, x_iW4)]) (us aW [(0, x_aW0), (2, x_aW2), (3, x_aW3)]) iK lK aK iB lB aB iC aC) (As := [.int v4]) (rest := []) ⟨hx, hb, hml, hown, hts⟩ (c_C_roleOfAtom l dC dI cy (fun i => ad (i + 22)) H.size v4 iC aC q72 e72) (cwV 1 hts (goodV m_ml_X6_62 m_im_X1_roleOfAtom m_se_X1_roleOfAtom m_in_X1 m_cd_X1_roleOfAtom) rfl rfl rfl (by decide +kernel) ⟨Nat.le_of_ble_eq_true rfl, Nat.le_of_ble_eq_true rfl⟩) hN hK hP hD hS hA [22, 23, 24, 25, 26, 27, 28, 29, 30] [none, none, none, none, none, none, none, none, none, none, none, none, none, none, none, none, none, none, none, none, none, none, some 0, some 1, some 2, some 3, some 4, some 5, some 6, some 7, some 8] rfl rfl rfl rfl rfl rfl 22 rfl rfl rfl hl.1 rfl (Nat.le_of_ble_eq_true rfl) dX6_addEdges_72 ⟨Nat.zero_le _, Nat.zero_le _⟩ (fun H locs hP hD hS => ?_)
                refine lv_istore (lv' := [(6, .int q72), (5, .int q45), (0, .ref (ad 0)), (1, .ref (ad 4)), (2, .int v2), (3, .int v3), (4, .int v4)]) hx hb dX6_addEdges_75 hl (by decide) rfl (fun ls hl => ?_)
                refine lv_aload_n hx hb dX6_addEdges_77 rfl (lv_at hl 2 rfl) ?_
                refine va_get (D := (dC, dI)) (ci := 6) (v := .ref (ad 3)) (C := RX6) (T := TX6) (N := 5) hx hb hts ki6 hown hK hP 0 rfl rfl 3 (by decide) kf18 (fun _ h9 => h9) rfl dX6_addEdges_78 ?_
                refine lv_aload_n hx hb dX6_addEdges_81 rfl (lv_at hl 2 rfl) ?_
                refine va_get (D := (dC, dI)) (ci := 6) (v := .int x_iW4) (C := RX6) (T := TX6) (N := 5) hx hb hts ki6 hown hK hP 0 rfl rfl 4 (by decide) kf26 (fun _ h9 => h9) rfl dX6_addEdges_82 ?_
                refine lv_iload_n hx hb dX6_addEdges_85 rfl (lv_at hl 4 rfl) ?_
                refine lv_aload_n hx hb dX6_addEdges_86 rfl (lv_at hl 2 rfl) ?_
                refine lv_iload hx hb dX6_addEdges_87 (lv_at hl 1 rfl) ?_
                obtain ⟨q89, e89, h⟩ := g_b h
                refine callVi (cc := cX6_addEdges) (ws' := zzW ad cy (ad 15) (ad 22) (us iW [(1, q89.2.1), (4, x_iW4)]) (us aW [(0, q89.2.2.1), (2, q89.2.2.2), (3, x_aW3)]) iK lK aK iB lB aB iC aC) (As := [.int q45]) (rest := [.int v2, .int x_iW4, .ref (ad 3)]) ⟨hx, hb, hml, hown, hts⟩ (c_W_thingFor l dC dI cy ad H.size q45 ((us iW [(1, x_iW1), (4, x_iW4)])) ((us aW [(0, x_aW0), (2, x_aW2), (3, x_aW3)])) q89 e89) (cwV 1 hts (goodV m_ml_X6_42 m_im_X6_thingFor m_se_X6_thingFor m_in_X6 m_cd_X6_thingFor) rfl rfl rfl (by decide +kernel) ⟨Nat.le_of_ble_eq_true rfl, Nat.le_of_ble_eq_true rfl⟩) hN hK hP hD hS hA [0, 1, 2, 3] [some 0, some 1, some 2, some 3, none, none, none, none, none, none, none, none, none, none, none, none, none, none, none, none, none, none, none, none, none, none, none, none, none, none, none] rfl rfl rfl rfl rfl rfl 0 rfl rfl rfl hl.1 rfl (Nat.le_of_ble_eq_true rfl) dX6_addEdges_89 ⟨Nat.zero_le _, Nat.zero_le _⟩ (fun H locs hP hD hS => ?_)
                refine lv_bipush (v := 10) hx hb dX6_addEdges_92 (by decide) ?_
                refine lv_ishl hx hb dX6_addEdges_94 ?_
                refine lv_ior hx hb dX6_addEdges_95 ?_
                refine lv_iload hx hb dX6_addEdges_96 (lv_at hl 0 rfl) ?_
                refine lv_bipush (v := 20) hx hb dX6_addEdges_98 (by decide) ?_
                refine lv_ishl hx hb dX6_addEdges_100 ?_
                refine lv_ior hx hb dX6_addEdges_101 ?_
                obtain ⟨g_38, h⟩ := g_n h
                refine va_iast (f := x_aW3) hx hb hK hP hD hS 3 0 rfl rfl g_38 dX6_addEdges_102 (fun H locs hP hD hS => ?_)
                have hP : va_P (dC, dI) vwCl (zzW ad cy (ad 15) (ad 22) (us iW [(1, q89.2.1), (4, x_iW4)]) (us aW [(0, q89.2.2.1), (2, q89.2.2.2), (3, (upd x_aW3 x_iW4.toNatClampNeg (((v2 ||| (q89.1 <<< ((10 : Int32) &&& 31))) ||| (q72 <<< ((20 : Int32) &&& 31))))))]) iK lK aK iB lB aB iC aC) H := Eq.mp (congrArg (fun w => va_P (dC, dI) vwCl w H) (stW_aW3 ad cy (ad 15) (ad 22) (us iW [(1, q89.2.1), (4, x_iW4)]) aW iK lK aK iB lB aB iC aC [(0, q89.2.2.1), (2, q89.2.2.2), (3, x_aW3)] ((upd x_aW3 x_iW4.toNatClampNeg (((v2 ||| (q89.1 <<< ((10 : Int32) &&& 31))) ||| (q72 <<< ((20 : Int32) &&& 31)))))))) hP
                have hD : va_D A (zzW ad cy (ad 15) (ad 22) (us iW [(1, q89.2.1), (4, x_iW4)]) (us aW [(0, q89.2.2.1), (2, q89.2.2.2), (3, (upd x_aW3 x_iW4.toNatClampNeg (((v2 ||| (q89.1 <<< ((10 : Int32) &&& 31))) ||| (q72 <<< ((20 : Int32) &&& 31))))))]) iK lK aK iB lB aB iC aC) := Eq.mp (congrArg (fun w => va_D A w) (stW_aW3 ad cy (ad 15) (ad 22) (us iW [(1, q89.2.1), (4, x_iW4)]) aW iK lK aK iB lB aB iC aC [(0, q89.2.2.1), (2, q89.2.2.2), (3, x_aW3)] ((upd x_aW3 x_iW4.toNatClampNeg (((v2 ||| (q89.1 <<< ((10 : Int32) &&& 31))) ||| (q72 <<< ((20 : Int32) &&& 31)))))))) hD
                refine lv_aload_n hx hb dX6_addEdges_103 rfl (lv_at hl 2 rfl) ?_
                refine lv_dup hx hb dX6_addEdges_104 rfl ?_
                refine va_get (D := (dC, dI)) (ci := 6) (v := .int x_iW4) (C := RX6) (T := TX6) (N := 5) hx hb hts ki6 hown hK hP 0 rfl rfl 4 (by decide) kf26 (fun _ h9 => h9) rfl dX6_addEdges_105 ?_
                refine lv_iconst (v := 1) hx hb dX6_addEdges_108 (by decide) ?_
                refine lv_iadd hx hb dX6_addEdges_109 ?_
                refine va_put (D := (dC, dI)) (ci := 6) (v := .int ((x_iW4 + (1 : Int32)))) (ty := .int) (C := RX6) (T := TX6) (N := 5) hx hb hts ki6 tyX6 tyX6_ok nmX6 hown hK hP hD hS 0 rfl rfl 4 (by decide) kf26 (fun _ h9 => h9) rfl (by decide +kernel) rfl rfl (Nat.le_of_ble_eq_true rfl) dX6_addEdges_110 (fun H locs hP hD hS => ?_)
                have hP : va_P (dC, dI) vwCl (zzW ad cy (ad 15) (ad 22) (us iW [(1, q89.2.1), (4, (x_iW4 + (1 : Int32)))]) (us aW [(0, q89.2.2.1), (2, q89.2.2.2), (3, (upd x_aW3 x_iW4.toNatClampNeg (((v2 ||| (q89.1 <<< ((10 : Int32) &&& 31))) ||| (q72 <<< ((20 : Int32) &&& 31))))))]) iK lK aK iB lB aB iC aC) H := Eq.mp (congrArg (fun w => va_P (dC, dI) vwCl w H) (stW_iW4 ad cy (ad 15) (ad 22) iW (us aW [(0, q89.2.2.1), (2, q89.2.2.2), (3, (upd x_aW3 x_iW4.toNatClampNeg (((v2 ||| (q89.1 <<< ((10 : Int32) &&& 31))) ||| (q72 <<< ((20 : Int32) &&& 31))))))]) iK lK aK iB lB aB iC aC [(1, q89.2.1), (4, x_iW4)] ((x_iW4 + (1 : Int32))))) hP
                have hD : va_D A (zzW ad cy (ad 15) (ad 22) (us iW [(1, q89.2.1), (4, (x_iW4 + (1 : Int32)))]) (us aW [(0, q89.2.2.1), (2, q89.2.2.2), (3, (upd x_aW3 x_iW4.toNatClampNeg (((v2 ||| (q89.1 <<< ((10 : Int32) &&& 31))) ||| (q72 <<< ((20 : Int32) &&& 31))))))]) iK lK aK iB lB aB iC aC) := Eq.mp (congrArg (fun w => va_D A w) (stW_iW4 ad cy (ad 15) (ad 22) iW (us aW [(0, q89.2.2.1), (2, q89.2.2.2), (3, (upd x_aW3 x_iW4.toNatClampNeg (((v2 ||| (q89.1 <<< ((10 : Int32) &&& 31))) ||| (q72 <<< ((20 : Int32) &&& 31))))))]) iK lK aK iB lB aB iC aC [(1, q89.2.1), (4, x_iW4)] ((x_iW4 + (1 : Int32))))) hD
                refine lv_iinc (v := (v4 + (1 : Int32))) (lv' := [(4, .int ((v4 + (1 : Int32)))), (6, .int q72), (5, .int q45), (0, .ref (ad 0)), (1, .ref (ad 4)), (2, .int v2), (3, .int v3)]) hx hb dX6_addEdges_113 hl (k := 6) rfl rfl (by decide) rfl (fun ls hl => ?_)
                refine lv_goto (tgt := 10) hx hb dX6_addEdges_116 (by decide) ?_
                exact ih v2 v3 ((v4 + (1 : Int32))) q89.2.1 ((x_iW4 + (1 : Int32))) q89.2.2.1 q89.2.2.2 ((upd x_aW3 x_iW4.toNatClampNeg (((v2 ||| (q89.1 <<< ((10 : Int32) &&& 31))) ||| (q72 <<< ((20 : Int32) &&& 31)))))) H locs ls h hP hD hS (lv_sub hl [3, 4, 5, 6, 0] rfl)
  intro H locs hP hD hS
  unfold f_W_addEdges at h
  refine lv_aload_n hx hb dX6_addEdges_0 rfl (lv_at hl 0 rfl) ?_
  refine va_get (D := (dC, dI)) (ci := 6) (v := .ref (ad 1)) (C := RX6) (T := TX6) (N := 5) hx hb hts ki6 hown hK hP 0 rfl rfl 0 (by decide) kf9 (fun _ h9 => h9) rfl dX6_addEdges_1 ?_
  refine lv_iload_n hx hb dX6_addEdges_4 rfl (lv_at hl 2 rfl) ?_
  obtain ⟨g_39, h⟩ := g_n h
  refine va_sald (f := (aW 0)) hx hb hK hP 1 3 rfl rfl g_39 dX6_addEdges_5 ?_
  refine lv_istore_n (lv' := [(3, .int (((aW 0) a2.toNatClampNeg))), (0, .ref (ad 0)), (1, .ref (ad 4)), (2, .int a2)]) hx hb dX6_addEdges_6 rfl hl (by decide) rfl (fun ls hl => ?_)
  refine lv_iconst (v := 0) hx hb dX6_addEdges_7 (by decide) ?_
  refine lv_istore (lv' := [(4, .int ((0 : Int32))), (3, .int (((aW 0) a2.toNatClampNeg))), (0, .ref (ad 0)), (1, .ref (ad 4)), (2, .int a2)]) hx hb dX6_addEdges_8 hl (by decide) rfl (fun ls hl => ?_)
  exact B10 N a2 (((aW 0) a2.toNatClampNeg)) ((0 : Int32)) (iW 1) (iW 4) (aW 0) (aW 2) (aW 3) H locs ls h hP hD hS (lv_sub hl [2, 3, 4, 1, 0] rfl)
set_option maxHeartbeats 8000000 in
set_option maxRecDepth 100000 in
theorem c_W_build (l : Launch) (dC : Nat → ClassId) (dI : Nat → Nat → Nat) (cy : Nat → ClassId) (ad : Nat → Nat) (sz : Nat) (N : Nat) (a2 : Int32) (iW : Nat → Int32) (aW : Nat → Nat → Int32) (iK : Nat → Int32) (lK : Nat → Nat → Int64) (aK : Nat → Nat → Int32) (iB : Nat → Int32) (lB : Nat → Nat → Int64) (aB : Nat → Nat → Int32) (iC : Nat → Int32) (aC : Nat → Nat → Int32) (q : Int32 × Int32 × (Nat → Int32) × (Nat → Int32) × (Nat → Int32)) (h : f_W_build N a2 (iB 13) (iC 9) (aC 5) (lK 3) (lK 4) (lK 9) (aK 5) (aK 6) (iW 1) (iW 4) (aW 0) (aW 2) (aW 3) = some q) : Met l yX6_build wsX6_build ({ frames := 4, cells := 0, slots := 0, locals := 98 } : Room) (cP (dC, dI) cy [.ref (ad 0), .ref (ad 4), .int a2] (zzW ad cy (ad 15) (ad 22) iW aW iK lK aK iB lB aB iC aC) sz) (cQv (dC, dI) cy (zzW ad cy (ad 15) (ad 22) (us iW [(1, q.1), (4, q.2.1)]) (us aW [(0, q.2.2.1), (2, q.2.2.2.1), (3, q.2.2.2.2)]) iK lK aK iB lB aB iC aC) (va_A (zzW ad cy (ad 15) (ad 22) iW aW iK lK aK iB lB aB iC aC) sz)) 0 0 (va_A (zzW ad cy (ad 15) (ad 22) iW aW iK lK aK iB lB aB iC aC) sz) := by
  refine Met.ofW (cc := cX6_build) (maxL := 5) (ret := none) (by decide) rfl ?_
  intro p e s m args below meth c s₁ B hml hv
  obtain ⟨hav, hsz, hP, hK, hD0, hN⟩ := hv
  have hx := B.exec
  have hb := B.bytes
  have hr := B.returns
  have hts := atoms_spec (ws := wsX6_build) B.pre
  have hown : s.vm.findClass RX6 = some m.cls := findClass_of_methodNamed B.named
  have hlocks := B.notSynchronized
  subst hsz
  have hD := hD0.self (sz := s.heap.size)
  generalize hAe : va_A (zzW ad cy (ad 15) (ad 22) iW aW iK lK aK iB lB aB iC aC) s.heap.size = A at hD ⊢
  have hA : ∀ q : Nat, s.heap.size ≤ q → A q := fun q h => by rw [← hAe]; exact Or.inr h
  have hS : va_S A s.heap s.heap [] := va_S.rf
  generalize hWQ : (zzW ad cy (ad 15) (ad 22) (us iW [(1, q.1), (4, q.2.1)]) (us aW [(0, q.2.2.1), (2, q.2.2.2.1), (3, q.2.2.2.2)]) iK lK aK iB lB aB iC aC) = WQ
  generalize hQQ : MQ below (cQv (dC, dI) cy WQ A) args s 0 0 A = QQ
  have hl := lv_entry ([.ref (ad 0), .ref (ad 4), .int a2] : List Value) (n := 5) (Nat.le_of_ble_eq_true rfl)
  have hfr := lg_entry_eq m ([.ref (ad 0), .ref (ad 4), .int a2] : List Value) 5
  rw [← hav] at hfr
  rw [hfr]
  clear hfr hav
  generalize (lg_sl ([.ref (ad 0), .ref (ad 4), .int a2] : List Value) ++ List.replicate (5 - (lg_sl ([.ref (ad 0), .ref (ad 4), .int a2] : List Value)).length) Slot.unset).toArray = ls at hl ⊢
  have hl : lv_has ls 5 [(0, .ref (ad 0)), (1, .ref (ad 4)), (2, .int a2)] := hl
  have kf22 := hts _ (List.mem_cons_of_mem _ m_fl_X6_22)
  have ki6 := (fun w h => List.mem_cons_of_mem _ (i_X6 w h) : ∀ w ∈ u_ws RX6 TX6 5, w ∈ wsX6_build)
  have kf32 := hts _ (List.mem_cons_of_mem _ m_fl_X6_32)
  have ki2 := (fun w h => List.mem_cons_of_mem _ (i_X2 w h) : ∀ w ∈ u_ws RX2 TX2 15, w ∈ wsX6_build)
  refine (?_ : ∀ (H : Heap) (locs : List Loc), va_P (dC, dI) vwCl (zzW ad cy (ad 15) (ad 22) iW aW iK lK aK iB lB aB iC aC) H → va_D A (zzW ad cy (ad 15) (ad 22) iW aW iK lK aK iB lB aB iC aC) → va_S A s.heap H locs → W p l e ({ frames := 4, cells := 0, slots := 0, locals := 98 } : Room) s m args below meth c H locs 0 0 QQ (F0 m 0 ls [])) s.heap [] hP hD hS
  clear hP hD hS
  have B29 : ∀ (n : Nat) (v4 : Int32) (x_iW1 : Int32) (x_iW4 : Int32) (x_aW0 : Nat → Int32) (x_aW2 : Nat → Int32) (x_aW3 : Nat → Int32) (H : Heap) (locs : List Loc) (ls : Array Slot), f_W_build_29 N (iB 13) (iC 9) (aC 5) (lK 3) (lK 4) (lK 9) (aK 5) (aK 6) (iW 1) (iW 4) (aW 0) (aW 2) (aW 3) n v4 x_iW1 x_iW4 x_aW0 x_aW2 x_aW3 = some q → va_P (dC, dI) vwCl (zzW ad cy (ad 15) (ad 22) (us iW [(1, x_iW1), (4, x_iW4)]) (us aW [(0, x_aW0), (2, x_aW2), (3, x_aW3)]) iK lK aK iB lB aB iC aC) H → va_D A (zzW ad cy (ad 15) (ad 22) (us iW [(1, x_iW1), (4, x_iW4)]) (us aW [(0, x_aW0), (2, x_aW2), (3, x_aW3)]) iK lK aK iB lB aB iC aC) → va_S A s.heap H locs → lv_has ls 5 [(0, .ref (ad 0)), (1, .ref (ad 4)), (4, .int v4)] → W p l e ({ frames := 4, cells := 0, slots := 0, locals := 98 } : Room) s m args below meth c H locs 0 0 QQ (F0 m 29 ls []) := by
    intro n
    induction n with
    | zero =>
      intro v4 x_iW1 x_iW4 x_aW0 x_aW2 x_aW3 H locs ls h hP hD hS hl
      rw [f_W_build_29] at h
      cases h
    | succ n ih =>
      intro v4 x_iW1 x_iW4 x_aW0 x_aW2 x_aW3 H locs ls h hP hD hS hl
      rw [f_W_build_29] at h
      refine lv_iload hx hb dX6_build_29 (lv_at hl 2 rfl) ?_
      refine lv_aload_n hx hb dX6_build_31 rfl (lv_at hl 0 rfl) ?_
      refine va_get (D := (dC, dI)) (ci := 6) (v := .int x_iW1) (C := RX6) (T := TX6) (N := 5) hx hb hts ki6 hown hK hP 0 rfl rfl 1 (by decide) kf22 (fun _ h9 => h9) rfl dX6_build_32 ?_
      refine lv_icmp_ge (tgt := 59) hx hb dX6_build_35 (by decide) (fun cz => ?_) (fun cz => ?_)
      · have h := g_t h cz
        have h' := Option.some.inj h
        rw [← hQQ]
        exact W.vret hx hb hr (fun t ht hW => ⟨⟨(), rfl, trivial, by rw [← hWQ, ← h', ht]; exact hP, va_K.moved hW.alike hK⟩, hS.F ht⟩) hS.2.2 dX6_build_59
      · have h := g_f h cz
        refine lv_iload hx hb dX6_build_38 (lv_at hl 2 rfl) ?_
        refine lv_sipush (v := 512) hx hb dX6_build_40 (by decide) ?_
        refine lv_icmp_ge (tgt := 59) hx hb dX6_build_43 (by decide) (fun cz => ?_) (fun cz => ?_)
        · have h := g_t h cz
          have h' := Option.some.inj h
          rw [← hQQ]
          exact W.vret hx hb hr (fun t ht hW => ⟨⟨(), rfl, trivial, by rw [← hWQ, ← h', ht]; exact hP, va_K.moved hW.alike hK⟩, hS.F ht⟩) hS.2.2 dX6_build_59
        · have h := g_f h cz
          refine lv_aload_n hx hb dX6_build_46 rfl (lv_at hl 0 rfl) ?_
          refine lv_aload_n hx hb dX6_build_47 rfl (lv_at hl 1 rfl) ?_
          refine lv_iload hx hb dX6_build_48 (lv_at hl 2 rfl) ?_
          obtain ⟨q50, e50, h⟩ := g_b h
          refine callVvs (cc := cX6_build) (w1 := zzW ad cy (ad 15) (ad 22) (us iW [(1, q50.1), (4, q50.2.1)]) (us aW [(0, q50.2.2.1), (2, q50.2.2.2.1), (3, q50.2.2.2.2)]) iK lK aK iB lB aB iC aC) (As := [.ref (ad 4), .int v4]) (rest := []) ⟨hx, hb, hml, hown, hts⟩ (c_W_addEdges l dC dI cy ad H.size N v4 ((us iW [(1, x_iW1), (4, x_iW4)])) ((us aW [(0, x_aW0), (2, x_aW2), (3, x_aW3)])) iK lK aK iB lB aB iC aC q50 e50) (cwV 2 hts (goodV m_ml_X6_46 m_im_X6_addEdges m_se_X6_addEdges m_in_X6 m_cd_X6_addEdges) rfl rfl rfl (by decide +kernel) ⟨Nat.le_of_ble_eq_true rfl, Nat.le_of_ble_eq_true rfl⟩) hN hK hP hD hS hA rfl 0 rfl rfl rfl hl.1 rfl (Nat.le_of_ble_eq_true rfl) dX6_build_50 ⟨Nat.zero_le _, Nat.zero_le _⟩ (fun H locs hP hD hS => ?_)
          refine lv_iinc (v := (v4 + (1 : Int32))) (lv' := [(4, .int ((v4 + (1 : Int32)))), (0, .ref (ad 0)), (1, .ref (ad 4))]) hx hb dX6_build_53 hl (k := 2) rfl rfl (by decide) rfl (fun ls hl => ?_)
          refine lv_goto (tgt := 29) hx hb dX6_build_56 (by decide) ?_
          exact ih ((v4 + (1 : Int32))) q50.1 q50.2.1 q50.2.2.1 q50.2.2.2.1 q50.2.2.2.2 H locs ls h hP hD hS (lv_sub hl [1, 2, 0] rfl)
  intro H locs hP hD hS
  unfold f_W_build at h
  refine lv_aload_n hx hb dX6_build_0 rfl (lv_at hl 0 rfl) ?_
  obtain ⟨q1, e1, h⟩ := g_b h
  refine callVv (cc := cX6_build) (ws' := zzW ad cy (ad 15) (ad 22) (us iW [(1, q1.1), (4, q1.2.1)]) (us aW [(2, q1.2.2)]) iK lK aK iB lB aB iC aC) (As := []) (rest := []) ⟨hx, hb, hml, hown, hts⟩ (c_W_clear l dC dI cy ad H.size N iW aW q1 e1) (cwV 0 hts (goodV m_ml_X6_29 m_im_X6_clear m_se_X6_clear m_in_X6 m_cd_X6_clear) rfl rfl rfl (by decide +kernel) ⟨Nat.le_of_ble_eq_true rfl, Nat.le_of_ble_eq_true rfl⟩) hN hK hP hD hS hA [0, 1, 2, 3] [some 0, some 1, some 2, some 3, none, none, none, none, none, none, none, none, none, none, none, none, none, none, none, none, none, none, none, none, none, none, none, none, none, none, none] rfl rfl rfl rfl rfl rfl 0 rfl rfl rfl hl.1 rfl (Nat.le_of_ble_eq_true rfl) dX6_build_1 ⟨Nat.zero_le _, Nat.zero_le _⟩ (fun H locs hP hD hS => ?_)
  refine lv_aload_n hx hb dX6_build_4 rfl (lv_at hl 1 rfl) ?_
  refine lv_iload_n hx hb dX6_build_5 rfl (lv_at hl 2 rfl) ?_
  refine lv_aload_n hx hb dX6_build_6 rfl (lv_at hl 1 rfl) ?_
  refine va_get (D := (dC, dI)) (ci := 2) (v := .ref (ad 10)) (C := RX2) (T := TX2) (N := 15) hx hb hts ki2 hown hK hP 4 rfl rfl 9 (by decide) kf32 (fun _ h9 => h9) rfl dX6_build_7 ?_
  obtain ⟨q10, e10, h⟩ := g_b h
  refine callVi (cc := cX6_build) (ws' := zzW ad cy (ad 15) (ad 22) (us iW [(1, q1.1), (4, q1.2.1)]) (us aW [(2, q1.2.2)]) iK lK aK iB lB aB iC aC) (As := [.int a2, .ref (ad 10)]) (rest := []) ⟨hx, hb, hml, hown, hts⟩ (c_K_leastWhere_standing l dC dI cy (fun i => ad (i + 4)) H.size N a2 iK lK aK iB lB aB iC aC q10 e10) (cwV 2 hts (goodV m_ml_X6_38 m_im_X2_leastWhere m_se_X2_leastWhere m_in_X2 m_cd_X2_leastWhere) rfl rfl rfl (by decide +kernel) ⟨Nat.le_of_ble_eq_true rfl, Nat.le_of_ble_eq_true rfl⟩) hN hK hP hD hS hA [4, 5, 6, 7, 8, 9, 10, 11, 12, 13, 14, 15, 16, 17, 18, 19, 20, 21, 22, 23, 24, 25, 26, 27, 28, 29, 30] [none, none, none, none, some 0, some 1, some 2, some 3, some 4, some 5, some 6, some 7, some 8, some 9, some 10, some 11, some 12, some 13, some 14, some 15, some 16, some 17, some 18, some 19, some 20, some 21, some 22, some 23, some 24, some 25, some 26] rfl rfl rfl rfl rfl rfl 4 rfl rfl rfl hl.1 rfl (Nat.le_of_ble_eq_true rfl) dX6_build_10 ⟨Nat.zero_le _, Nat.zero_le _⟩ (fun H locs hP hD hS => ?_)
  refine lv_istore_n (lv' := [(3, .int q10), (0, .ref (ad 0)), (1, .ref (ad 4)), (2, .int a2)]) hx hb dX6_build_13 rfl hl (by decide) rfl (fun ls hl => ?_)
  refine lv_iload_n hx hb dX6_build_14 rfl (lv_at hl 0 rfl) ?_
  refine lv_iconst (v := (-1)) hx hb dX6_build_15 (by decide) ?_
  refine lv_icmp_ne (tgt := 20) hx hb dX6_build_16 (by decide) (fun cz => ?_) (fun cz => ?_)
  · have h := g_f h cz
    refine lv_aload_n hx hb dX6_build_20 rfl (lv_at hl 1 rfl) ?_
    refine lv_iload_n hx hb dX6_build_21 rfl (lv_at hl 0 rfl) ?_
    obtain ⟨q22, e22, h⟩ := g_b h
    refine callVi (cc := cX6_build) (ws' := zzW ad cy (ad 15) (ad 22) (us iW [(1, q22.2.1), (4, q1.2.1)]) (us aW [(0, q22.2.2.1), (2, q22.2.2.2)]) iK lK aK iB lB aB iC aC) (As := [.int q10]) (rest := []) ⟨hx, hb, hml, hown, hts⟩ (c_W_thingFor l dC dI cy ad H.size q10 ((us iW [(1, q1.1), (4, q1.2.1)])) ((us aW [(2, q1.2.2)])) q22 e22) (cwV 1 hts (goodV m_ml_X6_42 m_im_X6_thingFor m_se_X6_thingFor m_in_X6 m_cd_X6_thingFor) rfl rfl rfl (by decide +kernel) ⟨Nat.le_of_ble_eq_true rfl, Nat.le_of_ble_eq_true rfl⟩) hN hK hP hD hS hA [0, 1, 2, 3] [some 0, some 1, some 2, some 3, none, none, none, none, none, none, none, none, none, none, none, none, none, none, none, none, none, none, none, none, none, none, none, none, none, none, none] rfl rfl rfl rfl rfl rfl 0 rfl rfl rfl hl.1 rfl (Nat.le_of_ble_eq_true rfl) dX6_build_22 ⟨Nat.zero_le _, Nat.zero_le _⟩ (fun H locs hP hD hS => ?_)
    refine lv_pop hx hb dX6_build_25 rfl ?_
    refine lv_iconst (v := 0) hx hb dX6_build_26 (by decide) ?_
    refine lv_istore (lv' := [(4, .int ((0 : Int32))), (3, .int q10), (0, .ref (ad 0)), (1, .ref (ad 4)), (2, .int a2)]) hx hb dX6_build_27 hl (by decide) rfl (fun ls hl => ?_)
    exact B29 N ((0 : Int32)) q22.2.1 q1.2.1 q22.2.2.1 q22.2.2.2 (aW 3) H locs ls h hP hD hS (lv_sub hl [2, 3, 0] rfl)
  · have h := g_t h cz
    have h' := Option.some.inj h
    rw [← hQQ]
    exact W.vret hx hb hr (fun t ht hW => ⟨⟨(), rfl, trivial, by rw [← hWQ, ← h', ht]; exact hP, va_K.moved hW.alike hK⟩, hS.F ht⟩) hS.2.2 dX6_build_19
set_option maxHeartbeats 8000000 in
set_option maxRecDepth 100000 in
theorem c_X_world (l : Launch) (dC : Nat → ClassId) (dI : Nat → Nat → Nat) (cy : Nat → ClassId) (ad : Nat → Nat) (sz : Nat) (rb : Nat) (rc : Nat) (pb : Nat) (N : Nat) (a1 : Int32) (iX : Nat → Int32) (iR : Nat → Int32) (iT : Nat → Int32) (wT : Int64) (tx : Nat → Int32) (iB : Nat → Int32) (lB : Nat → Nat → Int64) (aB : Nat → Nat → Int32) (iC : Nat → Int32) (aC : Nat → Nat → Int32) (iD : Nat → Int32) (lD : Nat → Nat → Int64) (aD : Nat → Nat → Int32) (iE : Nat → Int32) (aE : Nat → Nat → Int32) (iK : Nat → Int32) (lK : Nat → Nat → Int64) (aK : Nat → Nat → Int32) (iW : Nat → Int32) (aW : Nat → Nat → Int32) (iP : Nat → Int32) (aP : Nat → Nat → Int32) (q : Int32 × Int32 × Int32 × (Nat → Int32) × (Nat → Int32) × (Nat → Int32)) (h : f_X_world N a1 (iX 5) (iB 11) (iB 13) (aB 10) (iC 9) (aC 5) (lK 3) (lK 4) (lK 9) (aK 5) (aK 6) (iW 1) (iW 4) (aW 0) (aW 2) (aW 3) = some q) : Met l yX7_world wsX7_world ({ frames := 5, cells := 0, slots := 0, locals := 122 } : Room) (cP (dC, dI) cy [.ref (ad 0), .int a1] (zzX ad cy rb rc (ad 4) (ad 11) pb (ad 4) (ad 20) iX iR iT wT tx iB lB aB iC aC iD lD aD iE aE iK lK aK iW aW iP aP) sz) (cQi (dC, dI) cy q.1 (zzX ad cy rb rc (ad 4) (ad 11) pb (ad 4) (ad 20) iX iR iT wT tx iB lB aB iC aC iD lD aD iE aE iK lK aK (us iW [(1, q.2.1), (4, q.2.2.1)]) (us aW [(0, q.2.2.2.1), (2, q.2.2.2.2.1), (3, q.2.2.2.2.2)]) iP aP) (va_A (zzX ad cy rb rc (ad 4) (ad 11) pb (ad 4) (ad 20) iX iR iT wT tx iB lB aB iC aC iD lD aD iE aE iK lK aK iW aW iP aP) sz)) 0 0 (va_A (zzX ad cy rb rc (ad 4) (ad 11) pb (ad 4) (ad 20) iX iR iT wT tx iB lB aB iC aC iD lD aD iE aE iK lK aK iW aW iP aP) sz) := by
  refine Met.ofW (cc := cX7_world) (maxL := 2) (ret := (some .int)) (by decide) rfl ?_
  intro p e s m args below meth c s₁ B hml hv
  obtain ⟨hav, hsz, hP, hK, hD0, hN⟩ := hv
  have hx := B.exec
  have hb := B.bytes
  have hr := B.returns
  have hts := atoms_spec (ws := wsX7_world) B.pre
  have hown : s.vm.findClass RX7 = some m.cls := findClass_of_methodNamed B.named
  have hlocks := B.notSynchronized
  subst hsz
  have hD := hD0.self (sz := s.heap.size)
  generalize hAe : va_A (zzX ad cy rb rc (ad 4) (ad 11) pb (ad 4) (ad 20) iX iR iT wT tx iB lB aB iC aC iD lD aD iE aE iK lK aK iW aW iP aP) s.heap.size = A at hD ⊢
  have hA : ∀ q : Nat, s.heap.size ≤ q → A q := fun q h => by rw [← hAe]; exact Or.inr h
  have hS : va_S A s.heap s.heap [] := va_S.rf
  generalize hWQ : (zzX ad cy rb rc (ad 4) (ad 11) pb (ad 4) (ad 20) iX iR iT wT tx iB lB aB iC aC iD lD aD iE aE iK lK aK (us iW [(1, q.2.1), (4, q.2.2.1)]) (us aW [(0, q.2.2.2.1), (2, q.2.2.2.2.1), (3, q.2.2.2.2.2)]) iP aP) = WQ
  generalize hQQ : MQ below (cQi (dC, dI) cy q.1 WQ A) args s 0 0 A = QQ
  have hl := lv_entry ([.ref (ad 0), .int a1] : List Value) (n := 2) (Nat.le_of_ble_eq_true rfl)
  have hfr := lg_entry_eq m ([.ref (ad 0), .int a1] : List Value) 2
  rw [← hav] at hfr
  rw [hfr]
  clear hfr hav
  generalize (lg_sl ([.ref (ad 0), .int a1] : List Value) ++ List.replicate (2 - (lg_sl ([.ref (ad 0), .int a1] : List Value)).length) Slot.unset).toArray = ls at hl ⊢
  have hl : lv_has ls 2 [(0, .ref (ad 0)), (1, .int a1)] := hl
  have kf70 := hts _ (List.mem_cons_of_mem _ m_fl_X7_70)
  have ki7 := (fun w h => List.mem_cons_of_mem _ (i_X7 w h) : ∀ w ∈ u_ws RX7 TX7 9, w ∈ wsX7_world)
  have kf44 := hts _ (List.mem_cons_of_mem _ m_fl_X7_44)
  have kf37 := hts _ (List.mem_cons_of_mem _ m_fl_X7_37)
  have kf16 := hts _ (List.mem_cons_of_mem _ m_fl_X7_16)
  have kf124 := hts _ (List.mem_cons_of_mem _ m_fl_X7_124)
  have ki6 := (fun w h => List.mem_cons_of_mem _ (i_X6 w h) : ∀ w ∈ u_ws RX6 TX6 5, w ∈ wsX7_world)
  refine (?_ : ∀ (H : Heap) (locs : List Loc), va_P (dC, dI) vwCl (zzX ad cy rb rc (ad 4) (ad 11) pb (ad 4) (ad 20) iX iR iT wT tx iB lB aB iC aC iD lD aD iE aE iK lK aK iW aW iP aP) H → va_D A (zzX ad cy rb rc (ad 4) (ad 11) pb (ad 4) (ad 20) iX iR iT wT tx iB lB aB iC aC iD lD aD iE aE iK lK aK iW aW iP aP) → va_S A s.heap H locs → W p l e ({ frames := 5, cells := 0, slots := 0, locals := 122 } : Room) s m args below meth c H locs 0 0 QQ (F0 m 0 ls [])) s.heap [] hP hD hS
  clear hP hD hS
  intro H locs hP hD hS
  unfold f_X_world at h
  refine lv_aload_n hx hb dX7_world_0 rfl (lv_at hl 0 rfl) ?_
  refine va_get (D := (dC, dI)) (ci := 7) (v := .int (iX 5)) (C := RX7) (T := TX7) (N := 9) hx hb hts ki7 hown hK hP 0 rfl rfl 5 (by decide) kf70 (fun _ h9 => h9) rfl dX7_world_1 ?_
  refine lv_if_ne (tgt := 10) hx hb dX7_world_4 (by decide) (fun cz => ?_) (fun cz => ?_)
  · have h := g_f h cz
    refine lv_aload_n hx hb dX7_world_10 rfl (lv_at hl 0 rfl) ?_
    refine lv_iload_n hx hb dX7_world_11 rfl (lv_at hl 1 rfl) ?_
    obtain ⟨q12, e12, h⟩ := g_b h
    refine callVis (cc := cX7_world) (w1 := zzX ad cy rb rc (ad 4) (ad 11) pb (ad 4) (ad 20) iX iR iT wT tx iB lB aB iC aC iD lD aD iE aE iK lK aK iW aW iP aP) (As := [.int a1]) (rest := []) ⟨hx, hb, hml, hown, hts⟩ (c_X_isQuestion l dC dI cy ad H.size rb rc pb a1 iX iR iT wT tx iB lB aB iC aC iD lD aD iE aE iK lK aK iW aW iP aP q12 e12) (cwV 1 hts (goodV m_ml_X7_152 m_im_X7_isQuestion m_se_X7_isQuestion m_in_X7 m_cd_X7_isQuestion) rfl rfl rfl (by decide +kernel) ⟨Nat.le_of_ble_eq_true rfl, Nat.le_of_ble_eq_true rfl⟩) hN hK hP hD hS hA rfl 0 rfl rfl rfl hl.1 rfl (Nat.le_of_ble_eq_true rfl) dX7_world_12 ⟨Nat.zero_le _, Nat.zero_le _⟩ (fun H locs hP hD hS => ?_)
    refine lv_if_ne (tgt := 21) hx hb dX7_world_15 (by decide) (fun cz => ?_) (fun cz => ?_)
    · have h := g_f h cz
      refine lv_aload_n hx hb dX7_world_21 rfl (lv_at hl 0 rfl) ?_
      refine va_get (D := (dC, dI)) (ci := 7) (v := .ref (ad 47)) (C := RX7) (T := TX7) (N := 9) hx hb hts ki7 hown hK hP 0 rfl rfl 7 (by decide) kf44 (fun _ h9 => h9) rfl dX7_world_22 ?_
      refine lv_aload_n hx hb dX7_world_25 rfl (lv_at hl 0 rfl) ?_
      refine va_get (D := (dC, dI)) (ci := 7) (v := .ref (ad 36)) (C := RX7) (T := TX7) (N := 9) hx hb hts ki7 hown hK hP 0 rfl rfl 6 (by decide) kf37 (fun _ h9 => h9) rfl dX7_world_26 ?_
      refine lv_aload_n hx hb dX7_world_29 rfl (lv_at hl 0 rfl) ?_
      refine va_get (D := (dC, dI)) (ci := 7) (v := .ref (ad 4)) (C := RX7) (T := TX7) (N := 9) hx hb hts ki7 hown hK hP 0 rfl rfl 3 (by decide) kf16 (fun _ h9 => h9) rfl dX7_world_30 ?_
      refine lv_iload_n hx hb dX7_world_33 rfl (lv_at hl 1 rfl) ?_
      obtain ⟨q34, e34, h⟩ := g_b h
      refine callVi (cc := cX7_world) (ws' := zzX ad cy rb rc (ad 4) (ad 11) pb (ad 4) (ad 20) iX iR iT wT tx iB lB aB iC aC iD lD aD iE aE iK lK aK iW aW iP aP) (As := [.int a1]) (rest := [.ref (ad 36), .ref (ad 47)]) ⟨hx, hb, hml, hown, hts⟩ (c_B_question l dC dI cy (fun i => ad (i + 4)) H.size a1 iB lB aB iC aC q34 e34) (cwV 1 hts (goodV m_ml_X7_155 m_im_X0_question m_se_X0_question m_in_X0 m_cd_X0_question) rfl rfl rfl (by decide +kernel) ⟨Nat.le_of_ble_eq_true rfl, Nat.le_of_ble_eq_true rfl⟩) hN hK hP hD hS hA [4, 5, 6, 7, 8, 9, 10, 11, 12, 13, 14, 15, 16, 17, 18, 19] [none, none, none, none, some 0, some 1, some 2, some 3, some 4, some 5, some 6, some 7, some 8, some 9, some 10, some 11, some 12, some 13, some 14, some 15, none, none, none, none, none, none, none, none, none, none, none, none, none, none, none, none, none, none, none, none, none, none, none, none, none, none, none, none, none, none, none, none, none, none] rfl rfl rfl rfl rfl rfl 4 rfl rfl rfl hl.1 rfl (Nat.le_of_ble_eq_true rfl) dX7_world_34 ⟨Nat.zero_le _, Nat.zero_le _⟩ (fun H locs hP hD hS => ?_)
      obtain ⟨q37, e37, h⟩ := g_b h
      refine callVv (cc := cX7_world) (ws' := zzX ad cy rb rc (ad 4) (ad 11) pb (ad 4) (ad 20) iX iR iT wT tx iB lB aB iC aC iD lD aD iE aE iK lK aK (us iW [(1, q37.1), (4, q37.2.1)]) (us aW [(0, q37.2.2.1), (2, q37.2.2.2.1), (3, q37.2.2.2.2)]) iP aP) (As := [.ref (ad 36), .int q34]) (rest := []) ⟨hx, hb, hml, hown, hts⟩ (c_W_build l dC dI cy (fun i => ad (([47, 48, 49, 50, 36, 37, 38, 39, 40, 41, 42, 43, 44, 45, 46, 4, 5, 6, 7, 8, 9, 10, 11, 12, 13, 14, 15, 16, 17, 18, 19] : List Nat).getD i 0)) H.size N q34 iW aW iK lK aK iB lB aB iC aC q37 e37) (cwV 2 hts (goodV m_ml_X7_175 m_im_X6_build m_se_X6_build m_in_X6 m_cd_X6_build) rfl rfl rfl (by decide +kernel) ⟨Nat.le_of_ble_eq_true rfl, Nat.le_of_ble_eq_true rfl⟩) hN hK hP hD hS hA [47, 48, 49, 50, 36, 37, 38, 39, 40, 41, 42, 43, 44, 45, 46, 4, 5, 6, 7, 8, 9, 10, 11, 12, 13, 14, 15, 16, 17, 18, 19] [none, none, none, none, some 15, some 16, some 17, some 18, some 19, some 20, some 21, some 22, some 23, some 24, some 25, some 26, some 27, some 28, some 29, some 30, none, none, none, none, none, none, none, none, none, none, none, none, none, none, none, none, some 4, some 5, some 6, some 7, some 8, some 9, some 10, some 11, some 12, some 13, some 14, some 0, some 1, some 2, some 3, none, none, none] rfl rfl rfl rfl rfl rfl 47 rfl rfl rfl hl.1 rfl (Nat.le_of_ble_eq_true rfl) dX7_world_37 ⟨Nat.zero_le _, Nat.zero_le _⟩ (fun H locs hP hD hS => ?_)
      refine lv_aload_n hx hb dX7_world_40 rfl (lv_at hl 0 rfl) ?_
      refine va_get (D := (dC, dI)) (ci := 7) (v := .ref (ad 47)) (C := RX7) (T := TX7) (N := 9) hx hb hts ki7 hown hK hP 0 rfl rfl 7 (by decide) kf44 (fun _ h9 => h9) rfl dX7_world_41 ?_
      refine va_get (D := (dC, dI)) (ci := 6) (v := .int q37.1) (C := RX6) (T := TX6) (N := 5) hx hb hts ki6 hown hK hP 47 rfl rfl 1 (by decide) kf124 (fun _ h9 => h9) rfl dX7_world_44 ?_
      have h' := Option.some.inj h
      rw [← hQQ]
      exact W.iret (v := q37.1) hx hb hr (fun t ht hW => ⟨⟨q37.1, (), rfl, by rw [← h'], by rw [← hWQ, ← h', ht]; exact hP, va_K.moved hW.alike hK⟩, hS.F ht⟩) hS.2.2 dX7_world_47
    · have h := g_t h cz
      refine lv_bipush (v := (-102)) hx hb dX7_world_18 (by decide) ?_
      have h' := Option.some.inj h
      rw [← hQQ]
      exact W.iret (v := (-102 : Int32)) hx hb hr (fun t ht hW => ⟨⟨(-102 : Int32), (), rfl, by rw [← h'], by rw [← hWQ, ← h', ht]; exact hP, va_K.moved hW.alike hK⟩, hS.F ht⟩) hS.2.2 dX7_world_20
  · have h := g_t h cz
    refine lv_bipush (v := (-101)) hx hb dX7_world_7 (by decide) ?_
    have h' := Option.some.inj h
    rw [← hQQ]
    exact W.iret (v := (-101 : Int32)) hx hb hr (fun t ht hW => ⟨⟨(-101 : Int32), (), rfl, by rw [← h'], by rw [← hWQ, ← h', ht]; exact hP, va_K.moved hW.alike hK⟩, hS.F ht⟩) hS.2.2 dX7_world_9
set_option maxHeartbeats 8000000 in
set_option maxRecDepth 100000 in
theorem c_X_thing (l : Launch) (dC : Nat → ClassId) (dI : Nat → Nat → Nat) (cy : Nat → ClassId) (ad : Nat → Nat) (sz : Nat) (rb : Nat) (rc : Nat) (pb : Nat) (a1 : Int32) (iX : Nat → Int32) (iR : Nat → Int32) (iT : Nat → Int32) (wT : Int64) (tx : Nat → Int32) (iB : Nat → Int32) (lB : Nat → Nat → Int64) (aB : Nat → Nat → Int32) (iC : Nat → Int32) (aC : Nat → Nat → Int32) (iD : Nat → Int32) (lD : Nat → Nat → Int64) (aD : Nat → Nat → Int32) (iE : Nat → Int32) (aE : Nat → Nat → Int32) (iK : Nat → Int32) (lK : Nat → Nat → Int64) (aK : Nat → Nat → Int32) (iW : Nat → Int32) (aW : Nat → Nat → Int32) (iP : Nat → Int32) (aP : Nat → Nat → Int32) (q : Int32) (h : f_X_thing a1 (iX 5) (iW 1) (aW 0) = some q) : Met l yX7_thing wsX7_thing ({ frames := 0, cells := 0, slots := 0, locals := 0 } : Room) (cP (dC, dI) cy [.ref (ad 0), .int a1] (zzX ad cy rb rc (ad 4) (ad 11) pb (ad 4) (ad 20) iX iR iT wT tx iB lB aB iC aC iD lD aD iE aE iK lK aK iW aW iP aP) sz) (cQi (dC, dI) cy q (zzX ad cy rb rc (ad 4) (ad 11) pb (ad 4) (ad 20) iX iR iT wT tx iB lB aB iC aC iD lD aD iE aE iK lK aK iW aW iP aP) (va_A (zzX ad cy rb rc (ad 4) (ad 11) pb (ad 4) (ad 20) iX iR iT wT tx iB lB aB iC aC iD lD aD iE aE iK lK aK iW aW iP aP) sz)) 0 0 (va_A (zzX ad cy rb rc (ad 4) (ad 11) pb (ad 4) (ad 20) iX iR iT wT tx iB lB aB iC aC iD lD aD iE aE iK lK aK iW aW iP aP) sz) := by
  refine Met.ofW (cc := cX7_thing) (maxL := 2) (ret := (some .int)) (by decide) rfl ?_
  intro p e s m args below meth c s₁ B hml hv
  obtain ⟨hav, hsz, hP, hK, hD0, hN⟩ := hv
  have hx := B.exec
  have hb := B.bytes
  have hr := B.returns
  have hts := atoms_spec (ws := wsX7_thing) B.pre
  have hown : s.vm.findClass RX7 = some m.cls := findClass_of_methodNamed B.named
  have hlocks := B.notSynchronized
  subst hsz
  have hD := hD0.self (sz := s.heap.size)
  generalize hAe : va_A (zzX ad cy rb rc (ad 4) (ad 11) pb (ad 4) (ad 20) iX iR iT wT tx iB lB aB iC aC iD lD aD iE aE iK lK aK iW aW iP aP) s.heap.size = A at hD ⊢
  have hA : ∀ q : Nat, s.heap.size ≤ q → A q := fun q h => by rw [← hAe]; exact Or.inr h
  have hS : va_S A s.heap s.heap [] := va_S.rf
  generalize hWQ : (zzX ad cy rb rc (ad 4) (ad 11) pb (ad 4) (ad 20) iX iR iT wT tx iB lB aB iC aC iD lD aD iE aE iK lK aK iW aW iP aP) = WQ
  generalize hQQ : MQ below (cQi (dC, dI) cy q WQ A) args s 0 0 A = QQ
  have hl := lv_entry ([.ref (ad 0), .int a1] : List Value) (n := 2) (Nat.le_of_ble_eq_true rfl)
  have hfr := lg_entry_eq m ([.ref (ad 0), .int a1] : List Value) 2
  rw [← hav] at hfr
  rw [hfr]
  clear hfr hav
  generalize (lg_sl ([.ref (ad 0), .int a1] : List Value) ++ List.replicate (2 - (lg_sl ([.ref (ad 0), .int a1] : List Value)).length) Slot.unset).toArray = ls at hl ⊢
  have hl : lv_has ls 2 [(0, .ref (ad 0)), (1, .int a1)] := hl
  have kf70 := hts _ (List.mem_cons_of_mem _ m_fl_X7_70)
  have ki7 := (fun w h => List.mem_cons_of_mem _ (i_X7 w h) : ∀ w ∈ u_ws RX7 TX7 9, w ∈ wsX7_thing)
  have kf44 := hts _ (List.mem_cons_of_mem _ m_fl_X7_44)
  have kf124 := hts _ (List.mem_cons_of_mem _ m_fl_X7_124)
  have ki6 := (fun w h => List.mem_cons_of_mem _ (i_X6 w h) : ∀ w ∈ u_ws RX6 TX6 5, w ∈ wsX7_thing)
  have kf179 := hts _ (List.mem_cons_of_mem _ m_fl_X7_179)
  refine (?_ : ∀ (H : Heap) (locs : List Loc), va_P (dC, dI) vwCl (zzX ad cy rb rc (ad 4) (ad 11) pb (ad 4) (ad 20) iX iR iT wT tx iB lB aB iC aC iD lD aD iE aE iK lK aK iW aW iP aP) H → va_D A (zzX ad cy rb rc (ad 4) (ad 11) pb (ad 4) (ad 20) iX iR iT wT tx iB lB aB iC aC iD lD aD iE aE iK lK aK iW aW iP aP) → va_S A s.heap H locs → W p l e ({ frames := 0, cells := 0, slots := 0, locals := 0 } : Room) s m args below meth c H locs 0 0 QQ (F0 m 0 ls [])) s.heap [] hP hD hS
  clear hP hD hS
  intro H locs hP hD hS
  unfold f_X_thing at h
  refine lv_aload_n hx hb dX7_thing_0 rfl (lv_at hl 0 rfl) ?_
  refine va_get (D := (dC, dI)) (ci := 7) (v := .int (iX 5)) (C := RX7) (T := TX7) (N := 9) hx hb hts ki7 hown hK hP 0 rfl rfl 5 (by decide) kf70 (fun _ h9 => h9) rfl dX7_thing_1 ?_
  refine lv_if_ne (tgt := 10) hx hb dX7_thing_4 (by decide) (fun cz => ?_) (fun cz => ?_)
  · have h := g_f h cz
    refine lv_iload_n hx hb dX7_thing_10 rfl (lv_at hl 1 rfl) ?_
    refine lv_if_lt (tgt := 37) hx hb dX7_thing_11 (by decide) (fun cz => ?_) (fun cz => ?_)
    · have h := g_t h cz
      refine lv_bipush (v := (-102)) hx hb dX7_thing_37 (by decide) ?_
      have h' := Option.some.inj h
      rw [← hQQ]
      exact W.iret (v := (-102 : Int32)) hx hb hr (fun t ht hW => ⟨⟨(-102 : Int32), (), rfl, by rw [← h'], by rw [← hWQ, ht]; exact hP, va_K.moved hW.alike hK⟩, hS.F ht⟩) hS.2.2 dX7_thing_39
    · have h := g_f h cz
      refine lv_iload_n hx hb dX7_thing_14 rfl (lv_at hl 1 rfl) ?_
      refine lv_aload_n hx hb dX7_thing_15 rfl (lv_at hl 0 rfl) ?_
      refine va_get (D := (dC, dI)) (ci := 7) (v := .ref (ad 47)) (C := RX7) (T := TX7) (N := 9) hx hb hts ki7 hown hK hP 0 rfl rfl 7 (by decide) kf44 (fun _ h9 => h9) rfl dX7_thing_16 ?_
      refine va_get (D := (dC, dI)) (ci := 6) (v := .int (iW 1)) (C := RX6) (T := TX6) (N := 5) hx hb hts ki6 hown hK hP 47 rfl rfl 1 (by decide) kf124 (fun _ h9 => h9) rfl dX7_thing_19 ?_
      refine lv_icmp_ge (tgt := 37) hx hb dX7_thing_22 (by decide) (fun cz => ?_) (fun cz => ?_)
      · have h := g_t h cz
        refine lv_bipush (v := (-102)) hx hb dX7_thing_37 (by decide) ?_
        have h' := Option.some.inj h
        rw [← hQQ]
        exact W.iret (v := (-102 : Int32)) hx hb hr (fun t ht hW => ⟨⟨(-102 : Int32), (), rfl, by rw [← h'], by rw [← hWQ, ht]; exact hP, va_K.moved hW.alike hK⟩, hS.F ht⟩) hS.2.2 dX7_thing_39
      · have h := g_f h cz
        refine lv_aload_n hx hb dX7_thing_25 rfl (lv_at hl 0 rfl) ?_
        refine va_get (D := (dC, dI)) (ci := 7) (v := .ref (ad 47)) (C := RX7) (T := TX7) (N := 9) hx hb hts ki7 hown hK hP 0 rfl rfl 7 (by decide) kf44 (fun _ h9 => h9) rfl dX7_thing_26 ?_
        refine va_get (D := (dC, dI)) (ci := 6) (v := .ref (ad 48)) (C := RX6) (T := TX6) (N := 5) hx hb hts ki6 hown hK hP 47 rfl rfl 0 (by decide) kf179 (fun _ h9 => h9) rfl dX7_thing_29 ?_
        refine lv_iload_n hx hb dX7_thing_32 rfl (lv_at hl 1 rfl) ?_
        obtain ⟨g_34, h⟩ := g_n h
        refine va_sald (f := (aW 0)) hx hb hK hP 48 3 rfl rfl g_34 dX7_thing_33 ?_
        refine lv_goto (tgt := 39) hx hb dX7_thing_34 (by decide) ?_
        have h' := Option.some.inj h
        rw [← hQQ]
        exact W.iret (v := ((aW 0) a1.toNatClampNeg)) hx hb hr (fun t ht hW => ⟨⟨((aW 0) a1.toNatClampNeg), (), rfl, by rw [← h'], by rw [← hWQ, ht]; exact hP, va_K.moved hW.alike hK⟩, hS.F ht⟩) hS.2.2 dX7_thing_39
  · have h := g_t h cz
    refine lv_bipush (v := (-101)) hx hb dX7_thing_7 (by decide) ?_
    have h' := Option.some.inj h
    rw [← hQQ]
    exact W.iret (v := (-101 : Int32)) hx hb hr (fun t ht hW => ⟨⟨(-101 : Int32), (), rfl, by rw [← h'], by rw [← hWQ, ht]; exact hP, va_K.moved hW.alike hK⟩, hS.F ht⟩) hS.2.2 dX7_thing_9
