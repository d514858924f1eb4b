def f_X_edge (a1 : Int32) (a2 : Int32) (iX5 : Int32) (iW4 : Int32) (aW3 : Nat → Int32) : Option Int32 := if iX5 = 0 then (some (-101 : Int32)) else (if a1 < 0 then (some (-102 : Int32)) else (if a1 < iW4 then (if a2 = (0 : Int32) then ((f_W_from a1 iW4 aW3).bind fun q61 => (some q61)) else (if a2 = (1 : Int32) then ((f_W_to a1 iW4 aW3).bind fun q70 => (some q70)) else (if a2 = (2 : Int32) then ((f_W_role a1 iW4 aW3).bind fun q79 => (some q79)) else (some (-103 : Int32))))) else (some (-102 : Int32))))
set_option maxHeartbeats 8000000 in
set_option maxRecDepth 100000 in
theorem c_X_edge (l : Launch) (dC : Nat → ClassId) (dI : Nat → Nat → Nat) (cy : Nat → ClassId) (ad : Nat → Nat) (sz : Nat) (rb : Nat) (rc : Nat) (pb : Nat) (a1 : Int32) (a2 : Int32) (iX : Nat → Int32) (iR : Nat → Int32) (iT : Nat → Int32) (wT : Int64) (tx : Nat → Int32) (iB : Nat → Int32) (lB : Nat → Nat → Int64) (aB : Nat → Nat → Int32) (iC : Nat → Int32) (aC : Nat → Nat → Int32) (iD : Nat → Int32) (lD : Nat → Nat → Int64) (aD : Nat → Nat → Int32) (iE : Nat → Int32) (aE : Nat → Nat → Int32) (iK : Nat → Int32) (lK : Nat → Nat → Int64) (aK : Nat → Nat → Int32) (iW : Nat → Int32) (aW : Nat → Nat → Int32) (iP : Nat → Int32) (aP : Nat → Nat → Int32) (q : Int32) (h : f_X_edge a1 a2 (iX 5) (iW 4) (aW 3) = some q) : Met l yX7_edge wsX7_edge ({ frames := 2, cells := 0, slots := 0, locals := 42 } : Room) (cP (dC, dI) cy [.ref (ad 0), .int a1, .int a2] (zzX ad cy rb rc (ad 4) (ad 11) pb (ad 4) (ad 20) iX iR iT wT tx iB lB aB iC aC iD lD aD iE aE iK lK aK iW aW iP aP) sz) (cQi (dC, dI) cy q (zzX ad cy rb rc (ad 4) (ad 11) pb (ad 4) (ad 20) iX iR iT wT tx iB lB aB iC aC iD lD aD iE aE iK lK aK iW aW iP aP) (va_A (zzX ad cy rb rc (ad 4) (ad 11) pb (ad 4) (ad 20) iX iR iT wT tx iB lB aB iC aC iD lD aD iE aE iK lK aK iW aW iP aP) sz)) 0 0 (va_A (zzX ad cy rb rc (ad 4) (ad 11) pb (ad 4) (ad 20) iX iR iT wT tx iB lB aB iC aC iD lD aD iE aE iK lK aK iW aW iP aP) sz) := by
  refine Met.ofW (cc := cX7_edge) (maxL := 3) (ret := (some .int)) (by decide) rfl ?_
  intro p e s m args below meth c s₁ B hml hv
  obtain ⟨hav, hsz, hP, hK, hD0, hN⟩ := hv
  have hx := B.exec
  have hb := B.bytes
  have hr := B.returns
  have hts := atoms_spec (ws := wsX7_edge) B.pre
  have hown : s.vm.findClass RX7 = some m.cls := findClass_of_methodNamed B.named
  have hlocks := B.notSynchronized
  subst hsz
  have hD := hD0.self (sz := s.heap.size)
  generalize hAe : va_A (zzX ad cy rb rc (ad 4) (ad 11) pb (ad 4) (ad 20) iX iR iT wT tx iB lB aB iC aC iD lD aD iE aE iK lK aK iW aW iP aP) s.heap.size = A at hD ⊢
  have hA : ∀ q : Nat, s.heap.size ≤ q → A q := fun q h => by rw [← hAe]; exact Or.inr h
  have hS : va_S A s.heap s.heap [] := va_S.rf
  generalize hWQ : (zzX ad cy rb rc (ad 4) (ad 11) pb (ad 4) (ad 20) iX iR iT wT tx iB lB aB iC aC iD lD aD iE aE iK lK aK iW aW iP aP) = WQ
  generalize hQQ : MQ below (cQi (dC, dI) cy q WQ A) args s 0 0 A = QQ
  have hl := lv_entry ([.ref (ad 0), .int a1, .int a2] : List Value) (n := 3) (Nat.le_of_ble_eq_true rfl)
  have hfr := lg_entry_eq m ([.ref (ad 0), .int a1, .int a2] : List Value) 3
  rw [← hav] at hfr
  rw [hfr]
  clear hfr hav
  generalize (lg_sl ([.ref (ad 0), .int a1, .int a2] : List Value) ++ List.replicate (3 - (lg_sl ([.ref (ad 0), .int a1, .int a2] : List Value)).length) Slot.unset).toArray = ls at hl ⊢
  have hl : lv_has ls 3 [(0, .ref (ad 0)), (1, .int a1), (2, .int a2)] := hl
  have kf70 := hts _ (List.mem_cons_of_mem _ m_fl_X7_70)
  have ki7 := (fun w h => List.mem_cons_of_mem _ (i_X7 w h) : ∀ w ∈ u_ws RX7 TX7 9, w ∈ wsX7_edge)
  have kf44 := hts _ (List.mem_cons_of_mem _ m_fl_X7_44)
  have kf127 := hts _ (List.mem_cons_of_mem _ m_fl_X7_127)
  have ki6 := (fun w h => List.mem_cons_of_mem _ (i_X6 w h) : ∀ w ∈ u_ws RX6 TX6 5, w ∈ wsX7_edge)
  refine (?_ : ∀ (H : Heap) (locs : List Loc), va_P (dC, dI) vwCl (zzX ad cy rb rc (ad 4) (ad 11) pb (ad 4) (ad 20) iX iR iT wT tx iB lB aB iC aC iD lD aD iE aE iK lK aK iW aW iP aP) H → va_D A (zzX ad cy rb rc (ad 4) (ad 11) pb (ad 4) (ad 20) iX iR iT wT tx iB lB aB iC aC iD lD aD iE aE iK lK aK iW aW iP aP) → va_S A s.heap H locs → W p l e ({ frames := 2, cells := 0, slots := 0, locals := 42 } : Room) s m args below meth c H locs 0 0 QQ (F0 m 0 ls [])) s.heap [] hP hD hS
  clear hP hD hS
  intro H locs hP hD hS
  unfold f_X_edge at h
  refine lv_aload_n hx hb dX7_edge_0 rfl (lv_at hl 0 rfl) ?_
  refine va_get (D := (dC, dI)) (ci := 7) (v := .int (iX 5)) (C := RX7) (T := TX7) (N := 9) hx hb hts ki7 hown hK hP 0 rfl rfl 5 (by decide) kf70 (fun _ h9 => h9) rfl dX7_edge_1 ?_
  refine lv_if_ne (tgt := 10) hx hb dX7_edge_4 (by decide) (fun cz => ?_) (fun cz => ?_)
  · have h := g_f h cz
    refine lv_iload_n hx hb dX7_edge_10 rfl (lv_at hl 1 rfl) ?_
    refine lv_if_lt (tgt := 25) hx hb dX7_edge_11 (by decide) (fun cz => ?_) (fun cz => ?_)
    · have h := g_t h cz
      refine lv_bipush (v := (-102)) hx hb dX7_edge_25 (by decide) ?_
      have h' := Option.some.inj h
      rw [← hQQ]
      exact W.iret (v := (-102 : Int32)) hx hb hr (fun t ht hW => ⟨⟨(-102 : Int32), (), rfl, by rw [← h'], by rw [← hWQ, ht]; exact hP, va_K.moved hW.alike hK⟩, hS.F ht⟩) hS.2.2 dX7_edge_27
    · have h := g_f h cz
      refine lv_iload_n hx hb dX7_edge_14 rfl (lv_at hl 1 rfl) ?_
      refine lv_aload_n hx hb dX7_edge_15 rfl (lv_at hl 0 rfl) ?_
      refine va_get (D := (dC, dI)) (ci := 7) (v := .ref (ad 47)) (C := RX7) (T := TX7) (N := 9) hx hb hts ki7 hown hK hP 0 rfl rfl 7 (by decide) kf44 (fun _ h9 => h9) rfl dX7_edge_16 ?_
      refine va_get (D := (dC, dI)) (ci := 6) (v := .int (iW 4)) (C := RX6) (T := TX6) (N := 5) hx hb hts ki6 hown hK hP 47 rfl rfl 4 (by decide) kf127 (fun _ h9 => h9) rfl dX7_edge_19 ?_
      refine lv_icmp_lt (tgt := 28) hx hb dX7_edge_22 (by decide) (fun cz => ?_) (fun cz => ?_)
      · have h := g_t h cz
        refine lv_iload_n hx hb dX7_edge_28 rfl (lv_at hl 2 rfl) ?_
        rcases Decidable.em (a2 = (0 : Int32)) with c0 | c0
        · have h := g_t h c0
          refine lv_tableIn (off := 27) (tgt := 56) hx hb dX7_edge_29 (by rw [c0]; decide) (by rw [c0]; decide) (by rw [c0]; rfl) (by decide) ?_
          refine lv_aload_n hx hb dX7_edge_56 rfl (lv_at hl 0 rfl) ?_
          refine va_get (D := (dC, dI)) (ci := 7) (v := .ref (ad 47)) (C := RX7) (T := TX7) (N := 9) hx hb hts ki7 hown hK hP 0 rfl rfl 7 (by decide) kf44 (fun _ h9 => h9) rfl dX7_edge_57 ?_
          refine lv_iload_n hx hb dX7_edge_60 rfl (lv_at hl 1 rfl) ?_
          obtain ⟨q61, e61, h⟩ := g_b h
          refine callVi (cc := cX7_edge) (ws' := zzX ad cy rb rc (ad 4) (ad 11) pb (ad 4) (ad 20) iX iR iT wT tx iB lB aB iC aC iD lD aD iE aE iK lK aK iW aW iP aP) (As := [.int a1]) (rest := []) ⟨hx, hb, hml, hown, hts⟩ (c_W_from l dC dI cy (fun i => ad (i + 47)) H.size a1 iW aW q61 e61) (cwV 1 hts (goodV m_ml_X7_183 m_im_X6_from m_se_X6_from m_in_X6 m_cd_X6_from) rfl rfl rfl (by decide +kernel) ⟨Nat.le_of_ble_eq_true rfl, Nat.le_of_ble_eq_true rfl⟩) hN hK hP hD hS hA [47, 48, 49, 50] [none, none, none, none, none, none, none, none, none, none, none, none, none, none, none, none, none, none, none, none, none, none, none, none, none, none, none, none, none, none, none, none, none, none, none, none, none, none, none, none, none, none, none, none, none, none, none, some 0, some 1, some 2, some 3, none, none, none] rfl rfl rfl rfl rfl rfl 47 rfl rfl rfl hl.1 rfl (Nat.le_of_ble_eq_true rfl) dX7_edge_61 ⟨Nat.zero_le _, Nat.zero_le _⟩ (fun H locs hP hD hS => ?_)
          have h' := Option.some.inj h
          rw [← hQQ]
          exact W.iret (v := q61) hx hb hr (fun t ht hW => ⟨⟨q61, (), rfl, by rw [← h'], by rw [← hWQ, ht]; exact hP, va_K.moved hW.alike hK⟩, hS.F ht⟩) hS.2.2 dX7_edge_64
        · have h := g_f h c0
          rcases Decidable.em (a2 = (1 : Int32)) with c1 | c1
          · have h := g_t h c1
            refine lv_tableIn (off := 36) (tgt := 65) hx hb dX7_edge_29 (by rw [c1]; decide) (by rw [c1]; decide) (by rw [c1]; rfl) (by decide) ?_
            refine lv_aload_n hx hb dX7_edge_65 rfl (lv_at hl 0 rfl) ?_
            refine va_get (D := (dC, dI)) (ci := 7) (v := .ref (ad 47)) (C := RX7) (T := TX7) (N := 9) hx hb hts ki7 hown hK hP 0 rfl rfl 7 (by decide) kf44 (fun _ h9 => h9) rfl dX7_edge_66 ?_
            refine lv_iload_n hx hb dX7_edge_69 rfl (lv_at hl 1 rfl) ?_
            obtain ⟨q70, e70, h⟩ := g_b h
            refine callVi (cc := cX7_edge) (ws' := zzX ad cy rb rc (ad 4) (ad 11) pb (ad 4) (ad 20) iX iR iT wT tx iB lB aB iC aC iD lD aD iE aE iK lK aK iW aW iP aP) (As := [.int a1]) (rest := []) ⟨hx, hb, hml, hown, hts⟩ (c_W_to l dC dI cy (fun i => ad (i + 47)) H.size a1 iW aW q70 e70) (cwV 1 hts (goodV m_ml_X7_186 m_im_X6_to m_se_X6_to m_in_X6 m_cd_X6_to) rfl rfl rfl (by decide +kernel) ⟨Nat.le_of_ble_eq_true rfl, Nat.le_of_ble_eq_true rfl⟩) hN hK hP hD hS hA [47, 48, 49, 50] [none, none, none, none, none, none, none, none, none, none, none, none, none, none, none, none, none, none, none, none, none, none, none, none, none, none, none, none, none, none, none, none, none, none, none, none, none, none, none, none, none, none, none, none, none, none, none, some 0, some 1, some 2, some 3, none, none, none] rfl rfl rfl rfl rfl rfl 47 rfl rfl rfl hl.1 rfl (Nat.le_of_ble_eq_true rfl) dX7_edge_70 ⟨Nat.zero_le _, Nat.zero_le _⟩ (fun H locs hP hD hS => ?_)
            have h' := Option.some.inj h
            rw [← hQQ]
            exact W.iret (v := q70) hx hb hr (fun t ht hW => ⟨⟨q70, (), rfl, by rw [← h'], by rw [← hWQ, ht]; exact hP, va_K.moved hW.alike hK⟩, hS.F ht⟩) hS.2.2 dX7_edge_73
          · have h := g_f h c1
            rcases Decidable.em (a2 = (2 : Int32)) with c2 | c2
            · have h := g_t h c2
              refine lv_tableIn (off := 45) (tgt := 74) hx hb dX7_edge_29 (by rw [c2]; decide) (by rw [c2]; decide) (by rw [c2]; rfl) (by decide) ?_
              refine lv_aload_n hx hb dX7_edge_74 rfl (lv_at hl 0 rfl) ?_
              refine va_get (D := (dC, dI)) (ci := 7) (v := .ref (ad 47)) (C := RX7) (T := TX7) (N := 9) hx hb hts ki7 hown hK hP 0 rfl rfl 7 (by decide) kf44 (fun _ h9 => h9) rfl dX7_edge_75 ?_
              refine lv_iload_n hx hb dX7_edge_78 rfl (lv_at hl 1 rfl) ?_
              obtain ⟨q79, e79, h⟩ := g_b h
              refine callVi (cc := cX7_edge) (ws' := zzX ad cy rb rc (ad 4) (ad 11) pb (ad 4) (ad 20) iX iR iT wT tx iB lB aB iC aC iD lD aD iE aE iK lK aK iW aW iP aP) (As := [.int a1]) (rest := []) ⟨hx, hb, hml, hown, hts⟩ (c_W_role l dC dI cy (fun i => ad (i + 47)) H.size a1 iW aW q79 e79) (cwV 1 hts (goodV m_ml_X7_189 m_im_X6_role m_se_X6_role m_in_X6 m_cd_X6_role) rfl rfl rfl (by decide +kernel) ⟨Nat.le_of_ble_eq_true rfl, Nat.le_of_ble_eq_true rfl⟩) hN hK hP hD hS hA [47, 48, 49, 50] [none, none, none, none, none, none, none, none, none, none, none, none, none, none, none, none, none, none, none, none, none, none, none, none, none, none, none, none, none, none, none, none, none, none, none, none, none, none, none, none, none, none, none, none, none, none, none, some 0, some 1, some 2, some 3, none, none, none] rfl rfl rfl rfl rfl rfl 47 rfl rfl rfl hl.1 rfl (Nat.le_of_ble_eq_true rfl) dX7_edge_79 ⟨Nat.zero_le _, Nat.zero_le _⟩ (fun H locs hP hD hS => ?_)
              have h' := Option.some.inj h
              rw [← hQQ]
              exact W.iret (v := q79) hx hb hr (fun t ht hW => ⟨⟨q79, (), rfl, by rw [← h'], by rw [← hWQ, ht]; exact hP, va_K.moved hW.alike hK⟩, hS.F ht⟩) hS.2.2 dX7_edge_82
            · have h := g_f h c2
              refine lv_tableOut (tgt := 83) hx hb dX7_edge_29 (by have z0 := tne (n := 0) (by decide) c0; have z1 := tne (n := 1) (by decide) c1; have z2 := tne (n := 2) (by decide) c2; omega) (by decide) ?_
              refine lv_bipush (v := (-103)) hx hb dX7_edge_83 (by decide) ?_
              have h' := Option.some.inj h
              rw [← hQQ]
              exact W.iret (v := (-103 : Int32)) hx hb hr (fun t ht hW => ⟨⟨(-103 : Int32), (), rfl, by rw [← h'], by rw [← hWQ, ht]; exact hP, va_K.moved hW.alike hK⟩, hS.F ht⟩) hS.2.2 dX7_edge_85
      · have h := g_f h cz
        refine lv_bipush (v := (-102)) hx hb dX7_edge_25 (by decide) ?_
        have h' := Option.some.inj h
        rw [← hQQ]
        exact W.iret (v := (-102 : Int32)) hx hb hr (fun t ht hW => ⟨⟨(-102 : Int32), (), rfl, by rw [← h'], by rw [← hWQ, ht]; exact hP, va_K.moved hW.alike hK⟩, hS.F ht⟩) hS.2.2 dX7_edge_27
  · have h := g_t h cz
    refine lv_bipush (v := (-101)) hx hb dX7_edge_7 (by decide) ?_
    have h' := Option.some.inj h
    rw [← hQQ]
    exact W.iret (v := (-101 : Int32)) hx hb hr (fun t ht hW => ⟨⟨(-101 : Int32), (), rfl, by rw [← h'], by rw [← hWQ, ht]; exact hP, va_K.moved hW.alike hK⟩, hS.F ht⟩) hS.2.2 dX7_edge_9
