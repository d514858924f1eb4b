def f_X_atom (a1 : Int32) (a2 : Int32) (iX5 : Int32) (iC9 : Int32) (aC5 : Nat → Int32) (aC6 : Nat → Int32) : Option Int32 := if iX5 = 0 then (some (-101 : Int32)) else (if a1 < 0 then (some (-102 : Int32)) else (if a1 < iC9 then (if a2 = (0 : Int32) then ((f_C_roleOfAtom a1 iC9 aC5).bind fun q68 => (some q68)) else (if a2 = (1 : Int32) then ((f_C_nameOfAtom a1 iC9 aC6).bind fun q80 => (some q80)) else (some (-103 : Int32)))) else (some (-102 : Int32))))
set_option maxHeartbeats 8000000 in
set_option maxRecDepth 100000 in
theorem c_X_atom (l : Launch) (dC : Nat → ClassId) (dI : Nat → Nat → Nat) (cy : Nat → ClassId) (ad : Nat → Nat) (sz : Nat) (rb : Nat) (rc : Nat) (pb : Nat) (a1 : Int32) (a2 : Int32) (iX : Nat → Int32) (iR : Nat → Int32) (iT : Nat → Int32) (wT : Int64) (tx : Nat → Int32) (iB : Nat → Int32) (lB : Nat → Nat → Int64) (aB : Nat → Nat → Int32) (iC : Nat → Int32) (aC : Nat → Nat → Int32) (iD : Nat → Int32) (lD : Nat → Nat → Int64) (aD : Nat → Nat → Int32) (iE : Nat → Int32) (aE : Nat → Nat → Int32) (iK : Nat → Int32) (lK : Nat → Nat → Int64) (aK : Nat → Nat → Int32) (iW : Nat → Int32) (aW : Nat → Nat → Int32) (iP : Nat → Int32) (aP : Nat → Nat → Int32) (q : Int32) (h : f_X_atom a1 a2 (iX 5) (iC 9) (aC 5) (aC 6) = some q) : Met l yX7_atom wsX7_atom ({ frames := 1, cells := 0, slots := 0, locals := 21 } : Room) (cP (dC, dI) cy [.ref (ad 0), .int a1, .int a2] (zzX ad cy rb rc (ad 4) (ad 11) pb (ad 4) (ad 20) iX iR iT wT tx iB lB aB iC aC iD lD aD iE aE iK lK aK iW aW iP aP) sz) (cQi (dC, dI) cy q (zzX ad cy rb rc (ad 4) (ad 11) pb (ad 4) (ad 20) iX iR iT wT tx iB lB aB iC aC iD lD aD iE aE iK lK aK iW aW iP aP) (va_A (zzX ad cy rb rc (ad 4) (ad 11) pb (ad 4) (ad 20) iX iR iT wT tx iB lB aB iC aC iD lD aD iE aE iK lK aK iW aW iP aP) sz)) 0 0 (va_A (zzX ad cy rb rc (ad 4) (ad 11) pb (ad 4) (ad 20) iX iR iT wT tx iB lB aB iC aC iD lD aD iE aE iK lK aK iW aW iP aP) sz) := by
  refine Met.ofW (cc := cX7_atom) (maxL := 3) (ret := (some .int)) (by decide) rfl ?_
  intro p e s m args below meth c s₁ B hml hv
  obtain ⟨hav, hsz, hP, hK, hD0, hN⟩ := hv
  have hx := B.exec
  have hb := B.bytes
  have hr := B.returns
  have hts := atoms_spec (ws := wsX7_atom) B.pre
  have hown : s.vm.findClass RX7 = some m.cls := findClass_of_methodNamed B.named
  have hlocks := B.notSynchronized
  subst hsz
  have hD := hD0.self (sz := s.heap.size)
  generalize hAe : va_A (zzX ad cy rb rc (ad 4) (ad 11) pb (ad 4) (ad 20) iX iR iT wT tx iB lB aB iC aC iD lD aD iE aE iK lK aK iW aW iP aP) s.heap.size = A at hD ⊢
  have hA : ∀ q : Nat, s.heap.size ≤ q → A q := fun q h => by rw [← hAe]; exact Or.inr h
  have hS : va_S A s.heap s.heap [] := va_S.rf
  generalize hWQ : (zzX ad cy rb rc (ad 4) (ad 11) pb (ad 4) (ad 20) iX iR iT wT tx iB lB aB iC aC iD lD aD iE aE iK lK aK iW aW iP aP) = WQ
  generalize hQQ : MQ below (cQi (dC, dI) cy q WQ A) args s 0 0 A = QQ
  have hl := lv_entry ([.ref (ad 0), .int a1, .int a2] : List Value) (n := 3) (Nat.le_of_ble_eq_true rfl)
  have hfr := lg_entry_eq m ([.ref (ad 0), .int a1, .int a2] : List Value) 3
  rw [← hav] at hfr
  rw [hfr]
  clear hfr hav
  generalize (lg_sl ([.ref (ad 0), .int a1, .int a2] : List Value) ++ List.replicate (3 - (lg_sl ([.ref (ad 0), .int a1, .int a2] : List Value)).length) Slot.unset).toArray = ls at hl ⊢
  have hl : lv_has ls 3 [(0, .ref (ad 0)), (1, .int a1), (2, .int a2)] := hl
  have kf70 := hts _ (List.mem_cons_of_mem _ m_fl_X7_70)
  have ki7 := (fun w h => List.mem_cons_of_mem _ (i_X7 w h) : ∀ w ∈ u_ws RX7 TX7 9, w ∈ wsX7_atom)
  have kf16 := hts _ (List.mem_cons_of_mem _ m_fl_X7_16)
  have kf101 := hts _ (List.mem_cons_of_mem _ m_fl_X7_101)
  have ki0 := (fun w h => List.mem_cons_of_mem _ (i_X0 w h) : ∀ w ∈ u_ws RX0 TX0 15, w ∈ wsX7_atom)
  have kf105 := hts _ (List.mem_cons_of_mem _ m_fl_X7_105)
  have ki1 := (fun w h => List.mem_cons_of_mem _ (i_X1 w h) : ∀ w ∈ u_ws RX1 TX1 10, w ∈ wsX7_atom)
  refine (?_ : ∀ (H : Heap) (locs : List Loc), va_P (dC, dI) vwCl (zzX ad cy rb rc (ad 4) (ad 11) pb (ad 4) (ad 20) iX iR iT wT tx iB lB aB iC aC iD lD aD iE aE iK lK aK iW aW iP aP) H → va_D A (zzX ad cy rb rc (ad 4) (ad 11) pb (ad 4) (ad 20) iX iR iT wT tx iB lB aB iC aC iD lD aD iE aE iK lK aK iW aW iP aP) → va_S A s.heap H locs → W p l e ({ frames := 1, cells := 0, slots := 0, locals := 21 } : Room) s m args below meth c H locs 0 0 QQ (F0 m 0 ls [])) s.heap [] hP hD hS
  clear hP hD hS
  intro H locs hP hD hS
  unfold f_X_atom at h
  refine lv_aload_n hx hb dX7_atom_0 rfl (lv_at hl 0 rfl) ?_
  refine va_get (D := (dC, dI)) (ci := 7) (v := .int (iX 5)) (C := RX7) (T := TX7) (N := 9) hx hb hts ki7 hown hK hP 0 rfl rfl 5 (by decide) kf70 (fun _ h9 => h9) rfl dX7_atom_1 ?_
  refine lv_if_ne (tgt := 10) hx hb dX7_atom_4 (by decide) (fun cz => ?_) (fun cz => ?_)
  · have h := g_f h cz
    refine lv_iload_n hx hb dX7_atom_10 rfl (lv_at hl 1 rfl) ?_
    refine lv_if_lt (tgt := 28) hx hb dX7_atom_11 (by decide) (fun cz => ?_) (fun cz => ?_)
    · have h := g_t h cz
      refine lv_bipush (v := (-102)) hx hb dX7_atom_28 (by decide) ?_
      have h' := Option.some.inj h
      rw [← hQQ]
      exact W.iret (v := (-102 : Int32)) hx hb hr (fun t ht hW => ⟨⟨(-102 : Int32), (), rfl, by rw [← h'], by rw [← hWQ, ht]; exact hP, va_K.moved hW.alike hK⟩, hS.F ht⟩) hS.2.2 dX7_atom_30
    · have h := g_f h cz
      refine lv_iload_n hx hb dX7_atom_14 rfl (lv_at hl 1 rfl) ?_
      refine lv_aload_n hx hb dX7_atom_15 rfl (lv_at hl 0 rfl) ?_
      refine va_get (D := (dC, dI)) (ci := 7) (v := .ref (ad 4)) (C := RX7) (T := TX7) (N := 9) hx hb hts ki7 hown hK hP 0 rfl rfl 3 (by decide) kf16 (fun _ h9 => h9) rfl dX7_atom_16 ?_
      refine va_get (D := (dC, dI)) (ci := 0) (v := .ref (ad 11)) (C := RX0) (T := TX0) (N := 15) hx hb hts ki0 hown hK hP 4 rfl rfl 0 (by decide) kf101 (fun _ h9 => h9) rfl dX7_atom_19 ?_
      refine va_get (D := (dC, dI)) (ci := 1) (v := .int (iC 9)) (C := RX1) (T := TX1) (N := 10) hx hb hts ki1 hown hK hP 11 rfl rfl 9 (by decide) kf105 (fun _ h9 => h9) rfl dX7_atom_22 ?_
      refine lv_icmp_lt (tgt := 31) hx hb dX7_atom_25 (by decide) (fun cz => ?_) (fun cz => ?_)
      · have h := g_t h cz
        refine lv_iload_n hx hb dX7_atom_31 rfl (lv_at hl 2 rfl) ?_
        rcases Decidable.em (a2 = (0 : Int32)) with c0 | c0
        · have h := g_t h c0
          refine lv_lookup (off := 28) (tgt := 60) hx hb dX7_atom_32 (by decide) (by rw [c0]; rfl) (by decide) ?_
          refine lv_aload_n hx hb dX7_atom_60 rfl (lv_at hl 0 rfl) ?_
          refine va_get (D := (dC, dI)) (ci := 7) (v := .ref (ad 4)) (C := RX7) (T := TX7) (N := 9) hx hb hts ki7 hown hK hP 0 rfl rfl 3 (by decide) kf16 (fun _ h9 => h9) rfl dX7_atom_61 ?_
          refine va_get (D := (dC, dI)) (ci := 0) (v := .ref (ad 11)) (C := RX0) (T := TX0) (N := 15) hx hb hts ki0 hown hK hP 4 rfl rfl 0 (by decide) kf101 (fun _ h9 => h9) rfl dX7_atom_64 ?_
          refine lv_iload_n hx hb dX7_atom_67 rfl (lv_at hl 1 rfl) ?_
          obtain ⟨q68, e68, h⟩ := g_b h
          refine callVi (cc := cX7_atom) (ws' := zzX ad cy rb rc (ad 4) (ad 11) pb (ad 4) (ad 20) iX iR iT wT tx iB lB aB iC aC iD lD aD iE aE iK lK aK iW aW iP aP) (As := [.int a1]) (rest := []) ⟨hx, hb, hml, hown, hts⟩ (c_C_roleOfAtom l dC dI cy (fun i => ad (i + 11)) H.size a1 iC aC q68 e68) (cwV 1 hts (goodV m_ml_X7_130 m_im_X1_roleOfAtom m_se_X1_roleOfAtom m_in_X1 m_cd_X1_roleOfAtom) rfl rfl rfl (by decide +kernel) ⟨Nat.le_of_ble_eq_true rfl, Nat.le_of_ble_eq_true rfl⟩) hN hK hP hD hS hA [11, 12, 13, 14, 15, 16, 17, 18, 19] [none, none, none, none, none, none, none, none, none, none, none, some 0, some 1, some 2, some 3, some 4, some 5, some 6, some 7, some 8, none, none, none, none, none, none, none, none, none, none, none, none, none, none, none, none, none, none, none, none, none, none, none, none, none, none, none, none, none, none, none, none, none, none] rfl rfl rfl rfl rfl rfl 11 rfl rfl rfl hl.1 rfl (Nat.le_of_ble_eq_true rfl) dX7_atom_68 ⟨Nat.zero_le _, Nat.zero_le _⟩ (fun H locs hP hD hS => ?_)
          have h' := Option.some.inj h
          rw [← hQQ]
          exact W.iret (v := q68) hx hb hr (fun t ht hW => ⟨⟨q68, (), rfl, by rw [← h'], by rw [← hWQ, ht]; exact hP, va_K.moved hW.alike hK⟩, hS.F ht⟩) hS.2.2 dX7_atom_71
        · have h := g_f h c0
          rcases Decidable.em (a2 = (1 : Int32)) with c1 | c1
          · have h := g_t h c1
            refine lv_lookup (off := 40) (tgt := 72) hx hb dX7_atom_32 (by decide) (by rw [c1]; rfl) (by decide) ?_
            refine lv_aload_n hx hb dX7_atom_72 rfl (lv_at hl 0 rfl) ?_
            refine va_get (D := (dC, dI)) (ci := 7) (v := .ref (ad 4)) (C := RX7) (T := TX7) (N := 9) hx hb hts ki7 hown hK hP 0 rfl rfl 3 (by decide) kf16 (fun _ h9 => h9) rfl dX7_atom_73 ?_
            refine va_get (D := (dC, dI)) (ci := 0) (v := .ref (ad 11)) (C := RX0) (T := TX0) (N := 15) hx hb hts ki0 hown hK hP 4 rfl rfl 0 (by decide) kf101 (fun _ h9 => h9) rfl dX7_atom_76 ?_
            refine lv_iload_n hx hb dX7_atom_79 rfl (lv_at hl 1 rfl) ?_
            obtain ⟨q80, e80, h⟩ := g_b h
            refine callVi (cc := cX7_atom) (ws' := zzX ad cy rb rc (ad 4) (ad 11) pb (ad 4) (ad 20) iX iR iT wT tx iB lB aB iC aC iD lD aD iE aE iK lK aK iW aW iP aP) (As := [.int a1]) (rest := []) ⟨hx, hb, hml, hown, hts⟩ (c_C_nameOfAtom l dC dI cy (fun i => ad (i + 11)) H.size a1 iC aC q80 e80) (cwV 1 hts (goodV m_ml_X7_134 m_im_X1_nameOfAtom m_se_X1_nameOfAtom m_in_X1 m_cd_X1_nameOfAtom) rfl rfl rfl (by decide +kernel) ⟨Nat.le_of_ble_eq_true rfl, Nat.le_of_ble_eq_true rfl⟩) hN hK hP hD hS hA [11, 12, 13, 14, 15, 16, 17, 18, 19] [none, none, none, none, none, none, none, none, none, none, none, some 0, some 1, some 2, some 3, some 4, some 5, some 6, some 7, some 8, none, none, none, none, none, none, none, none, none, none, none, none, none, none, none, none, none, none, none, none, none, none, none, none, none, none, none, none, none, none, none, none, none, none] rfl rfl rfl rfl rfl rfl 11 rfl rfl rfl hl.1 rfl (Nat.le_of_ble_eq_true rfl) dX7_atom_80 ⟨Nat.zero_le _, Nat.zero_le _⟩ (fun H locs hP hD hS => ?_)
            have h' := Option.some.inj h
            rw [← hQQ]
            exact W.iret (v := q80) hx hb hr (fun t ht hW => ⟨⟨q80, (), rfl, by rw [← h'], by rw [← hWQ, ht]; exact hP, va_K.moved hW.alike hK⟩, hS.F ht⟩) hS.2.2 dX7_atom_83
          · have h := g_f h c1
            refine lv_lookup (off := 52) (tgt := 84) hx hb dX7_atom_32 (by decide) (by have z0 := tne (n := 0) (by decide) c0; have z1 := tne (n := 1) (by decide) c1; simp [Op.lookupswitch.offset, Ne.symm z0, Ne.symm z1]) (by decide) ?_
            refine lv_bipush (v := (-103)) hx hb dX7_atom_84 (by decide) ?_
            have h' := Option.some.inj h
            rw [← hQQ]
            exact W.iret (v := (-103 : Int32)) hx hb hr (fun t ht hW => ⟨⟨(-103 : Int32), (), rfl, by rw [← h'], by rw [← hWQ, ht]; exact hP, va_K.moved hW.alike hK⟩, hS.F ht⟩) hS.2.2 dX7_atom_86
      · have h := g_f h cz
        refine lv_bipush (v := (-102)) hx hb dX7_atom_28 (by decide) ?_
        have h' := Option.some.inj h
        rw [← hQQ]
        exact W.iret (v := (-102 : Int32)) hx hb hr (fun t ht hW => ⟨⟨(-102 : Int32), (), rfl, by rw [← h'], by rw [← hWQ, ht]; exact hP, va_K.moved hW.alike hK⟩, hS.F ht⟩) hS.2.2 dX7_atom_30
  · have h := g_t h cz
    refine lv_bipush (v := (-101)) hx hb dX7_atom_7 (by decide) ?_
    have h' := Option.some.inj h
    rw [← hQQ]
    exact W.iret (v := (-101 : Int32)) hx hb hr (fun t ht hW => ⟨⟨(-101 : Int32), (), rfl, by rw [← h'], by rw [← hWQ, ht]; exact hP, va_K.moved hW.alike hK⟩, hS.F ht⟩) hS.2.2 dX7_atom_9
