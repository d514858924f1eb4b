def f_X_standsUnder (N : Nat) (a1 : Int32) (a2 : Int32) (iC4 : Int32) (aC0 : Nat → Int32) (aC1 : Nat → Int32) (aC2 : Nat → Int32) (lK3 : Nat → Int64) (lK9 : Nat → Int64) : Option Int32 := (f_C_nodeOfName N a1 iC4 aC0 aC1 aC2).bind fun q12 => ((f_C_nodeOfName N a2 iC4 aC0 aC1 aC2).bind fun q23 => ((f_K_implies N q12 q23 lK3 lK9).bind fun q26 => (if vp_nar .boolean q26 = q26 then (some q26) else none)))
set_option maxHeartbeats 8000000 in
set_option maxRecDepth 100000 in
theorem c_X_standsUnder (l : Launch) (dC : Nat → ClassId) (dI : Nat → Nat → Nat) (cy : Nat → ClassId) (ad : Nat → Nat) (sz : Nat) (rb : Nat) (rc : Nat) (pb : Nat) (N : Nat) (a1 : Int32) (a2 : Int32) (iX : Nat → Int32) (iR : Nat → Int32) (iT : Nat → Int32) (wT : Int64) (tx : Nat → Int32) (iB : Nat → Int32) (lB : Nat → Nat → Int64) (aB : Nat → Nat → Int32) (iC : Nat → Int32) (aC : Nat → Nat → Int32) (iD : Nat → Int32) (lD : Nat → Nat → Int64) (aD : Nat → Nat → Int32) (iE : Nat → Int32) (aE : Nat → Nat → Int32) (iK : Nat → Int32) (lK : Nat → Nat → Int64) (aK : Nat → Nat → Int32) (iW : Nat → Int32) (aW : Nat → Nat → Int32) (iP : Nat → Int32) (aP : Nat → Nat → Int32) (q : Int32) (h : f_X_standsUnder N a1 a2 (iC 4) (aC 0) (aC 1) (aC 2) (lK 3) (lK 9) = some q) : Met l yX7_standsUnder wsX7_standsUnder ({ frames := 2, cells := 0, slots := 0, locals := 45 } : Room) (cP (dC, dI) cy [.ref (ad 0), .int a1, .int a2] (zzX ad cy rb rc (ad 4) (ad 11) pb (ad 4) (ad 20) iX iR iT wT tx iB lB aB iC aC iD lD aD iE aE iK lK aK iW aW iP aP) sz) (cQi (dC, dI) cy q (zzX ad cy rb rc (ad 4) (ad 11) pb (ad 4) (ad 20) iX iR iT wT tx iB lB aB iC aC iD lD aD iE aE iK lK aK iW aW iP aP) (va_A (zzX ad cy rb rc (ad 4) (ad 11) pb (ad 4) (ad 20) iX iR iT wT tx iB lB aB iC aC iD lD aD iE aE iK lK aK iW aW iP aP) sz)) 0 0 (va_A (zzX ad cy rb rc (ad 4) (ad 11) pb (ad 4) (ad 20) iX iR iT wT tx iB lB aB iC aC iD lD aD iE aE iK lK aK iW aW iP aP) sz) := by
  refine Met.ofW (cc := cX7_standsUnder) (maxL := 3) (ret := (some .boolean)) (by decide) rfl ?_
  intro p e s m args below meth c s₁ B hml hv
  obtain ⟨hav, hsz, hP, hK, hD0, hN⟩ := hv
  have hx := B.exec
  have hb := B.bytes
  have hr := B.returns
  have hts := atoms_spec (ws := wsX7_standsUnder) B.pre
  have hown : s.vm.findClass RX7 = some m.cls := findClass_of_methodNamed B.named
  have hlocks := B.notSynchronized
  subst hsz
  have hD := hD0.self (sz := s.heap.size)
  generalize hAe : va_A (zzX ad cy rb rc (ad 4) (ad 11) pb (ad 4) (ad 20) iX iR iT wT tx iB lB aB iC aC iD lD aD iE aE iK lK aK iW aW iP aP) s.heap.size = A at hD ⊢
  have hA : ∀ q : Nat, s.heap.size ≤ q → A q := fun q h => by rw [← hAe]; exact Or.inr h
  have hS : va_S A s.heap s.heap [] := va_S.rf
  generalize hWQ : (zzX ad cy rb rc (ad 4) (ad 11) pb (ad 4) (ad 20) iX iR iT wT tx iB lB aB iC aC iD lD aD iE aE iK lK aK iW aW iP aP) = WQ
  generalize hQQ : MQ below (cQi (dC, dI) cy q WQ A) args s 0 0 A = QQ
  have hl := lv_entry ([.ref (ad 0), .int a1, .int a2] : List Value) (n := 3) (Nat.le_of_ble_eq_true rfl)
  have hfr := lg_entry_eq m ([.ref (ad 0), .int a1, .int a2] : List Value) 3
  rw [← hav] at hfr
  rw [hfr]
  clear hfr hav
  generalize (lg_sl ([.ref (ad 0), .int a1, .int a2] : List Value) ++ List.replicate (3 - (lg_sl ([.ref (ad 0), .int a1, .int a2] : List Value)).length) Slot.unset).toArray = ls at hl ⊢
  have hl : lv_has ls 3 [(0, .ref (ad 0)), (1, .int a1), (2, .int a2)] := hl
  have kf37 := hts _ (List.mem_cons_of_mem _ m_fl_X7_37)
  have ki7 := (fun w h => List.mem_cons_of_mem _ (i_X7 w h) : ∀ w ∈ u_ws RX7 TX7 9, w ∈ wsX7_standsUnder)
  have kf16 := hts _ (List.mem_cons_of_mem _ m_fl_X7_16)
  have kf101 := hts _ (List.mem_cons_of_mem _ m_fl_X7_101)
  have ki0 := (fun w h => List.mem_cons_of_mem _ (i_X0 w h) : ∀ w ∈ u_ws RX0 TX0 15, w ∈ wsX7_standsUnder)
  refine (?_ : ∀ (H : Heap) (locs : List Loc), va_P (dC, dI) vwCl (zzX ad cy rb rc (ad 4) (ad 11) pb (ad 4) (ad 20) iX iR iT wT tx iB lB aB iC aC iD lD aD iE aE iK lK aK iW aW iP aP) H → va_D A (zzX ad cy rb rc (ad 4) (ad 11) pb (ad 4) (ad 20) iX iR iT wT tx iB lB aB iC aC iD lD aD iE aE iK lK aK iW aW iP aP) → va_S A s.heap H locs → W p l e ({ frames := 2, cells := 0, slots := 0, locals := 45 } : Room) s m args below meth c H locs 0 0 QQ (F0 m 0 ls [])) s.heap [] hP hD hS
  clear hP hD hS
  intro H locs hP hD hS
  unfold f_X_standsUnder at h
  refine lv_aload_n hx hb dX7_standsUnder_0 rfl (lv_at hl 0 rfl) ?_
  refine va_get (D := (dC, dI)) (ci := 7) (v := .ref (ad 36)) (C := RX7) (T := TX7) (N := 9) hx hb hts ki7 hown hK hP 0 rfl rfl 6 (by decide) kf37 (fun _ h9 => h9) rfl dX7_standsUnder_1 ?_
  refine lv_aload_n hx hb dX7_standsUnder_4 rfl (lv_at hl 0 rfl) ?_
  refine va_get (D := (dC, dI)) (ci := 7) (v := .ref (ad 4)) (C := RX7) (T := TX7) (N := 9) hx hb hts ki7 hown hK hP 0 rfl rfl 3 (by decide) kf16 (fun _ h9 => h9) rfl dX7_standsUnder_5 ?_
  refine va_get (D := (dC, dI)) (ci := 0) (v := .ref (ad 11)) (C := RX0) (T := TX0) (N := 15) hx hb hts ki0 hown hK hP 4 rfl rfl 0 (by decide) kf101 (fun _ h9 => h9) rfl dX7_standsUnder_8 ?_
  refine lv_iload_n hx hb dX7_standsUnder_11 rfl (lv_at hl 1 rfl) ?_
  obtain ⟨q12, e12, h⟩ := g_b h
  refine callVi (cc := cX7_standsUnder) (ws' := zzX ad cy rb rc (ad 4) (ad 11) pb (ad 4) (ad 20) iX iR iT wT tx iB lB aB iC aC iD lD aD iE aE iK lK aK iW aW iP aP) (As := [.int a1]) (rest := [.ref (ad 36)]) ⟨hx, hb, hml, hown, hts⟩ (c_C_nodeOfName l dC dI cy (fun i => ad (i + 11)) H.size N a1 iC aC q12 e12) (cwV 1 hts (goodV m_ml_X7_216 m_im_X1_nodeOfName m_se_X1_nodeOfName m_in_X1 m_cd_X1_nodeOfName) rfl rfl rfl (by decide +kernel) ⟨Nat.le_of_ble_eq_true rfl, Nat.le_of_ble_eq_true rfl⟩) hN hK hP hD hS hA [11, 12, 13, 14, 15, 16, 17, 18, 19] [none, none, none, none, none, none, none, none, none, none, none, some 0, some 1, some 2, some 3, some 4, some 5, some 6, some 7, some 8, none, none, none, none, none, none, none, none, none, none, none, none, none, none, none, none, none, none, none, none, none, none, none, none, none, none, none, none, none, none, none, none, none, none] rfl rfl rfl rfl rfl rfl 11 rfl rfl rfl hl.1 rfl (Nat.le_of_ble_eq_true rfl) dX7_standsUnder_12 ⟨Nat.zero_le _, Nat.zero_le _⟩ (fun H locs hP hD hS => ?_)
  refine lv_aload_n hx hb dX7_standsUnder_15 rfl (lv_at hl 0 rfl) ?_
  refine va_get (D := (dC, dI)) (ci := 7) (v := .ref (ad 4)) (C := RX7) (T := TX7) (N := 9) hx hb hts ki7 hown hK hP 0 rfl rfl 3 (by decide) kf16 (fun _ h9 => h9) rfl dX7_standsUnder_16 ?_
  refine va_get (D := (dC, dI)) (ci := 0) (v := .ref (ad 11)) (C := RX0) (T := TX0) (N := 15) hx hb hts ki0 hown hK hP 4 rfl rfl 0 (by decide) kf101 (fun _ h9 => h9) rfl dX7_standsUnder_19 ?_
  refine lv_iload_n hx hb dX7_standsUnder_22 rfl (lv_at hl 2 rfl) ?_
  obtain ⟨q23, e23, h⟩ := g_b h
  refine callVi (cc := cX7_standsUnder) (ws' := zzX ad cy rb rc (ad 4) (ad 11) pb (ad 4) (ad 20) iX iR iT wT tx iB lB aB iC aC iD lD aD iE aE iK lK aK iW aW iP aP) (As := [.int a2]) (rest := [.int q12, .ref (ad 36)]) ⟨hx, hb, hml, hown, hts⟩ (c_C_nodeOfName l dC dI cy (fun i => ad (i + 11)) H.size N a2 iC aC q23 e23) (cwV 1 hts (goodV m_ml_X7_216 m_im_X1_nodeOfName m_se_X1_nodeOfName m_in_X1 m_cd_X1_nodeOfName) rfl rfl rfl (by decide +kernel) ⟨Nat.le_of_ble_eq_true rfl, Nat.le_of_ble_eq_true rfl⟩) hN hK hP hD hS hA [11, 12, 13, 14, 15, 16, 17, 18, 19] [none, none, none, none, none, none, none, none, none, none, none, some 0, some 1, some 2, some 3, some 4, some 5, some 6, some 7, some 8, none, none, none, none, none, none, none, none, none, none, none, none, none, none, none, none, none, none, none, none, none, none, none, none, none, none, none, none, none, none, none, none, none, none] rfl rfl rfl rfl rfl rfl 11 rfl rfl rfl hl.1 rfl (Nat.le_of_ble_eq_true rfl) dX7_standsUnder_23 ⟨Nat.zero_le _, Nat.zero_le _⟩ (fun H locs hP hD hS => ?_)
  obtain ⟨q26, e26, h⟩ := g_b h
  refine callVi (cc := cX7_standsUnder) (ws' := zzX ad cy rb rc (ad 4) (ad 11) pb (ad 4) (ad 20) iX iR iT wT tx iB lB aB iC aC iD lD aD iE aE iK lK aK iW aW iP aP) (As := [.int q12, .int q23]) (rest := []) ⟨hx, hb, hml, hown, hts⟩ (c_K_implies l dC dI cy (fun i => ad (([36, 37, 38, 39, 40, 41, 42, 43, 44, 45, 46, 4, 5, 6, 7, 8, 9, 10, 11, 12, 13, 14, 15, 16, 17, 18, 19] : List Nat).getD i 0)) H.size N q12 q23 iK lK aK iB lB aB iC aC q26 e26) (cwV 2 hts (goodV m_ml_X7_219 m_im_X2_implies m_se_X2_implies m_in_X2 m_cd_X2_implies) rfl rfl rfl (by decide +kernel) ⟨Nat.le_of_ble_eq_true rfl, Nat.le_of_ble_eq_true rfl⟩) hN hK hP hD hS hA [36, 37, 38, 39, 40, 41, 42, 43, 44, 45, 46, 4, 5, 6, 7, 8, 9, 10, 11, 12, 13, 14, 15, 16, 17, 18, 19] [none, none, none, none, some 11, some 12, some 13, some 14, some 15, some 16, some 17, some 18, some 19, some 20, some 21, some 22, some 23, some 24, some 25, some 26, none, none, none, none, none, none, none, none, none, none, none, none, none, none, none, none, some 0, some 1, some 2, some 3, some 4, some 5, some 6, some 7, some 8, some 9, some 10, none, none, none, none, none, none, none] rfl rfl rfl rfl rfl rfl 36 rfl rfl rfl hl.1 rfl (Nat.le_of_ble_eq_true rfl) dX7_standsUnder_26 ⟨Nat.zero_le _, Nat.zero_le _⟩ (fun H locs hP hD hS => ?_)
  obtain ⟨gz, h⟩ := g_p h
  have h' := Option.some.inj h
  rw [← hQQ]
  exact W.zret (v := q26) hx hb hr (g_zr _ gz) (fun t ht hW => ⟨⟨q26, (), rfl, by rw [← h'], by rw [← hWQ, ht]; exact hP, va_K.moved hW.alike hK⟩, hS.F ht⟩) hS.2.2 dX7_standsUnder_29
