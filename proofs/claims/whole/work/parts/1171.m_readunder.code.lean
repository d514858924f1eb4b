def f_M_readUnder_95 (N : Nat) (iM : Nat → Int32) (aM : Nat → Nat → Int32) (v1 : Int32) (v2 : Int32) (x_iM : Nat → Int32) (x_aM : Nat → Nat → Int32) : Option ((Nat → Int32) × (Nat → Nat → Int32)) := (f_M_fine ((x_iM 46))).bind fun q96 => (if q96 = 0 then (some (x_iM, x_aM)) else ((f_M_next N ((x_iM 1)) ((x_iM 2)) ((x_iM 3)) ((x_iM 4)) ((x_iM 5)) ((x_iM 6)) ((x_aM 0))).bind fun q103 => (if (((9 : Int32) + ((3 : Int32) * v1)) + v2) < 0 ∨ 18 ≤ ((((9 : Int32) + ((3 : Int32) * v1)) + v2)).toNatClampNeg then none else (if ((3 : Int32) + v1) < 0 ∨ 6 ≤ (((3 : Int32) + v1)).toNatClampNeg then none else (if ((3 : Int32) + v2) < 0 ∨ 6 ≤ (((3 : Int32) + v2)).toNatClampNeg then none else ((f_M_say ((3 : Int32)) v1 v2 ((x_iM 40)) ((x_aM 15)) ((x_aM 16)) ((x_aM 17))).bind fun q142 => (some ((us x_iM [(2, q103.1), (3, q103.2.1), (4, q103.2.2.1), (5, q103.2.2.2.1), (6, q103.2.2.2.2), (40, q142.1)]), (us x_aM [(15, q142.2.1), (16, q142.2.2.1), (17, q142.2.2.2), (30, (upd ((x_aM 30)) ((((9 : Int32) + ((3 : Int32) * v1)) + v2)).toNatClampNeg (vp_nar .boolean ((1 : Int32))))), (31, (upd ((upd ((x_aM 31)) (((3 : Int32) + v1)).toNatClampNeg (vp_nar .boolean ((1 : Int32))))) (((3 : Int32) + v2)).toNatClampNeg (vp_nar .boolean ((1 : Int32)))))])))))))))
def f_M_readUnder_85 (N : Nat) (iM : Nat → Int32) (aM : Nat → Nat → Int32) (v1 : Int32) (v2 : Int32) (x_iM : Nat → Int32) (x_aM : Nat → Nat → Int32) : Option ((Nat → Int32) × (Nat → Nat → Int32)) := (f_M_wrong ((6 : Int32)) ((x_iM 4)) ((x_iM 46)) ((x_iM 47))).bind fun q92 => (f_M_readUnder_95 N iM aM v1 v2 ((us x_iM [(46, q92.1), (47, q92.2)])) x_aM)
def f_M_readUnder_48 (N : Nat) (iM : Nat → Int32) (aM : Nat → Nat → Int32) (v1 : Int32) (x_iM : Nat → Int32) (x_aM : Nat → Nat → Int32) : Option ((Nat → Int32) × (Nat → Nat → Int32)) := (f_M_readRole N ((x_iM 3)) ((x_iM 4)) ((x_iM 5)) ((x_iM 43)) ((x_iM 44)) ((x_iM 46)) ((x_iM 47)) ((x_aM 0)) ((x_aM 7)) ((x_aM 23)) ((x_aM 24)) ((x_aM 26)) ((x_aM 27)) ((x_aM 29)) ((x_aM 31))).bind fun q49 => ((f_M_fine q49.2.2.1).bind fun q54 => (if q54 = 0 then (f_M_readUnder_95 N iM aM v1 q49.1 ((us x_iM [(44, q49.2.1), (46, q49.2.2.1), (47, q49.2.2.2.1)])) ((us x_aM [(26, q49.2.2.2.2.1), (27, q49.2.2.2.2.2.1), (29, q49.2.2.2.2.2.2.1), (31, q49.2.2.2.2.2.2.2)]))) else (if ((3 : Int32) + q49.1) < 0 ∨ 6 ≤ (((3 : Int32) + q49.1)).toNatClampNeg then none else (if (q49.2.2.2.2.2.2.1 (((3 : Int32) + q49.1)).toNatClampNeg) = 0 then (if q49.1 = v1 then (f_M_readUnder_85 N iM aM v1 q49.1 ((us x_iM [(44, q49.2.1), (46, q49.2.2.1), (47, q49.2.2.2.1)])) ((us x_aM [(26, q49.2.2.2.2.1), (27, q49.2.2.2.2.2.1), (29, q49.2.2.2.2.2.2.1), (31, q49.2.2.2.2.2.2.2)]))) else ((f_M_reaches N q49.1 v1 ((x_aM 30))).bind fun q79 => (if q79 = 0 then (f_M_readUnder_95 N iM aM v1 q49.1 ((us x_iM [(44, q49.2.1), (46, q49.2.2.1), (47, q49.2.2.2.1)])) ((us x_aM [(26, q49.2.2.2.2.1), (27, q49.2.2.2.2.2.1), (29, q49.2.2.2.2.2.2.1), (31, q49.2.2.2.2.2.2.2)]))) else (f_M_readUnder_85 N iM aM v1 q49.1 ((us x_iM [(44, q49.2.1), (46, q49.2.2.1), (47, q49.2.2.2.1)])) ((us x_aM [(26, q49.2.2.2.2.1), (27, q49.2.2.2.2.2.1), (29, q49.2.2.2.2.2.2.1), (31, q49.2.2.2.2.2.2.2)])))))) else (f_M_readUnder_85 N iM aM v1 q49.1 ((us x_iM [(44, q49.2.1), (46, q49.2.2.1), (47, q49.2.2.2.1)])) ((us x_aM [(26, q49.2.2.2.2.1), (27, q49.2.2.2.2.2.1), (29, q49.2.2.2.2.2.2.1), (31, q49.2.2.2.2.2.2.2)])))))))
def f_M_readUnder_37 (N : Nat) (iM : Nat → Int32) (aM : Nat → Nat → Int32) (v1 : Int32) (x_iM : Nat → Int32) (x_aM : Nat → Nat → Int32) : Option ((Nat → Int32) × (Nat → Nat → Int32)) := (f_M_fine ((x_iM 46))).bind fun q38 => (if q38 = 0 then (f_M_readUnder_48 N iM aM v1 x_iM x_aM) else ((f_M_next N ((x_iM 1)) ((x_iM 2)) ((x_iM 3)) ((x_iM 4)) ((x_iM 5)) ((x_iM 6)) ((x_aM 0))).bind fun q45 => (f_M_readUnder_48 N iM aM v1 ((us x_iM [(2, q45.1), (3, q45.2.1), (4, q45.2.2.1), (5, q45.2.2.2.1), (6, q45.2.2.2.2)])) x_aM)))
def f_M_readUnder (N : Nat) (iM : Nat → Int32) (aM : Nat → Nat → Int32) : Option ((Nat → Int32) × (Nat → Nat → Int32)) := (f_M_next N ((iM 1)) ((iM 2)) ((iM 3)) ((iM 4)) ((iM 5)) ((iM 6)) ((aM 0))).bind fun q1 => ((f_M_readRole N q1.2.1 q1.2.2.1 q1.2.2.2.1 ((iM 43)) ((iM 44)) ((iM 46)) ((iM 47)) ((aM 0)) ((aM 7)) ((aM 23)) ((aM 24)) ((aM 26)) ((aM 27)) ((aM 29)) ((aM 31))).bind fun q5 => ((f_M_fine q5.2.2.1).bind fun q10 => (if q10 = 0 then (f_M_readUnder_37 N iM aM q5.1 ((us iM [(2, q1.1), (3, q1.2.1), (4, q1.2.2.1), (5, q1.2.2.2.1), (6, q1.2.2.2.2), (44, q5.2.1), (46, q5.2.2.1), (47, q5.2.2.2.1)])) ((us aM [(26, q5.2.2.2.2.1), (27, q5.2.2.2.2.2.1), (29, q5.2.2.2.2.2.2.1), (31, q5.2.2.2.2.2.2.2)]))) else (if ((3 : Int32) + q5.1) < 0 ∨ 6 ≤ (((3 : Int32) + q5.1)).toNatClampNeg then none else (if (q5.2.2.2.2.2.2.1 (((3 : Int32) + q5.1)).toNatClampNeg) = 0 then (f_M_readUnder_37 N iM aM q5.1 ((us iM [(2, q1.1), (3, q1.2.1), (4, q1.2.2.1), (5, q1.2.2.2.1), (6, q1.2.2.2.2), (44, q5.2.1), (46, q5.2.2.1), (47, q5.2.2.2.1)])) ((us aM [(26, q5.2.2.2.2.1), (27, q5.2.2.2.2.2.1), (29, q5.2.2.2.2.2.2.1), (31, q5.2.2.2.2.2.2.2)]))) else ((f_M_wrong ((6 : Int32)) q1.2.2.1 q5.2.2.1 q5.2.2.2.1).bind fun q34 => (f_M_readUnder_37 N iM aM q5.1 ((us iM [(2, q1.1), (3, q1.2.1), (4, q1.2.2.1), (5, q1.2.2.2.1), (6, q1.2.2.2.2), (44, q5.2.1), (46, q34.1), (47, q34.2)])) ((us aM [(26, q5.2.2.2.2.1), (27, q5.2.2.2.2.2.1), (29, q5.2.2.2.2.2.2.1), (31, q5.2.2.2.2.2.2.2)])))))))))
set_option maxHeartbeats 8000000 in
set_option maxRecDepth 100000 in
theorem c_M_readUnder (l : Launch) (dC : Nat → ClassId) (dI : Nat → Nat → Nat) (cy : Nat → ClassId) (ad : Nat → Nat) (sz : Nat) (N : Nat) (iM : Nat → Int32) (aM : Nat → Nat → Int32) (q : (Nat → Int32) × (Nat → Nat → Int32)) (h : f_M_readUnder N iM aM = some q) : Met l yX8_readUnder wsX8_readUnder ({ frames := 3, cells := 0, slots := 0, locals := 68 } : Room) (cP (dC, dI) cy [.ref (ad 0)] (zzM ad cy iM aM) sz) (cQv (dC, dI) cy (zzM ad cy q.1 q.2) (va_A (zzM ad cy iM aM) sz)) 0 0 (va_A (zzM ad cy iM aM) sz) := by
  refine Met.ofW (cc := cX8_readUnder) (maxL := 3) (ret := none) (by decide) rfl ?_
  intro p e s m args below meth c s₁ B hml hv
  obtain ⟨hav, hsz, hP, hK, hD0, hN⟩ := hv
  have hx := B.exec
  have hb := B.bytes
  have hr := B.returns
  have hts := atoms_spec (ws := wsX8_readUnder) B.pre
  have hown : s.vm.findClass RX8 = some m.cls := findClass_of_methodNamed B.named
  have hlocks := B.notSynchronized
  subst hsz
  have hD := hD0.self (sz := s.heap.size)
  generalize hAe : va_A (zzM ad cy iM aM) s.heap.size = A at hD ⊢
  have hA : ∀ q : Nat, s.heap.size ≤ q → A q := fun q h => by rw [← hAe]; exact Or.inr h
  have hS : va_S A s.heap s.heap [] := va_S.rf
  generalize hWQ : (zzM ad cy q.1 q.2) = WQ
  generalize hQQ : MQ below (cQv (dC, dI) cy WQ A) args s 0 0 A = QQ
  have hl := lv_entry ([.ref (ad 0)] : List Value) (n := 3) (Nat.le_of_ble_eq_true rfl)
  have hfr := lg_entry_eq m ([.ref (ad 0)] : List Value) 3
  rw [← hav] at hfr
  rw [hfr]
  clear hfr hav
  generalize (lg_sl ([.ref (ad 0)] : List Value) ++ List.replicate (3 - (lg_sl ([.ref (ad 0)] : List Value)).length) Slot.unset).toArray = ls at hl ⊢
  have hl : lv_has ls 3 [(0, .ref (ad 0))] := hl
  have kf67 := hts _ (List.mem_cons_of_mem _ m_fl_X8_67)
  have ki8 := (fun w h => List.mem_cons_of_mem _ (i_X8 w h) : ∀ w ∈ u_ws RX8 TX8 78, w ∈ wsX8_readUnder)
  have kf70 := hts _ (List.mem_cons_of_mem _ m_fl_X8_70)
  have kf169 := hts _ (List.mem_cons_of_mem _ m_fl_X8_169)
  have kf63 := hts _ (List.mem_cons_of_mem _ m_fl_X8_63)
  refine (?_ : ∀ (H : Heap) (locs : List Loc), va_P (dC, dI) vwCl (zzM ad cy iM aM) H → va_D A (zzM ad cy iM aM) → va_S A s.heap H locs → W p l e ({ frames := 3, cells := 0, slots := 0, locals := 68 } : Room) s m args below meth c H locs 0 0 QQ (F0 m 0 ls [])) s.heap [] hP hD hS
  clear hP hD hS
  have B95 : ∀ (v1 : Int32) (v2 : Int32) (x_iM : Nat → Int32) (x_aM : Nat → Nat → Int32) (H : Heap) (locs : List Loc) (ls : Array Slot), f_M_readUnder_95 N iM aM v1 v2 x_iM x_aM = some q → va_P (dC, dI) vwCl (zzM ad cy x_iM x_aM) H → va_D A (zzM ad cy x_iM x_aM) → va_S A s.heap H locs → lv_has ls 3 [(0, .ref (ad 0)), (1, .int v1), (2, .int v2)] → W p l e ({ frames := 3, cells := 0, slots := 0, locals := 68 } : Room) s m args below meth c H locs 0 0 QQ (F0 m 95 ls []) := by
    intro v1 v2 x_iM x_aM H locs ls h hP hD hS hl
    unfold f_M_readUnder_95 at h
    refine lv_aload_n hx hb dX8_readUnder_95 rfl (lv_at hl 0 rfl) ?_
    obtain ⟨q96, e96, h⟩ := g_b h
    refine callVis (cc := cX8_readUnder) (w1 := zzM ad cy x_iM x_aM) (As := []) (rest := []) ⟨hx, hb, hml, hown, hts⟩ (c_M_fine l dC dI cy ad H.size x_iM x_aM q96 e96) (cwV 0 hts (goodV m_ml_X8_198 m_im_X8_fine m_se_X8_fine m_in_X8 m_cd_X8_fine) rfl rfl rfl (by decide +kernel) ⟨Nat.le_of_ble_eq_true rfl, Nat.le_of_ble_eq_true rfl⟩) hN hK hP hD hS hA rfl 0 rfl rfl rfl hl.1 rfl (Nat.le_of_ble_eq_true rfl) dX8_readUnder_96 ⟨Nat.zero_le _, Nat.zero_le _⟩ (fun H locs hP hD hS => ?_)
    refine lv_if_eq (tgt := 145) hx hb dX8_readUnder_99 (by decide) (fun cz => ?_) (fun cz => ?_)
    · have h := g_t h cz
      have h' := Option.some.inj h
      rw [← hQQ]
      exact W.vret hx hb hr (fun t ht hW => ⟨⟨(), rfl, trivial, by rw [← hWQ, ← h', ht]; exact hP, va_K.moved hW.alike hK⟩, hS.F ht⟩) hS.2.2 dX8_readUnder_145
    · have h := g_f h cz
      refine lv_aload_n hx hb dX8_readUnder_102 rfl (lv_at hl 0 rfl) ?_
      obtain ⟨q103, e103, h⟩ := g_b h
      refine callVvs (cc := cX8_readUnder) (w1 := zzM ad cy (us x_iM [(2, q103.1), (3, q103.2.1), (4, q103.2.2.1), (5, q103.2.2.2.1), (6, q103.2.2.2.2)]) x_aM) (As := []) (rest := []) ⟨hx, hb, hml, hown, hts⟩ (c_M_next l dC dI cy ad H.size N x_iM x_aM q103 e103) (cwV 0 hts (goodV m_ml_X8_205 m_im_X8_next m_se_X8_next m_in_X8 m_cd_X8_next) rfl rfl rfl (by decide +kernel) ⟨Nat.le_of_ble_eq_true rfl, Nat.le_of_ble_eq_true rfl⟩) hN hK hP hD hS hA rfl 0 rfl rfl rfl hl.1 rfl (Nat.le_of_ble_eq_true rfl) dX8_readUnder_103 ⟨Nat.zero_le _, Nat.zero_le _⟩ (fun H locs hP hD hS => ?_)
      refine lv_aload_n hx hb dX8_readUnder_106 rfl (lv_at hl 0 rfl) ?_
      refine va_get (D := (dC, dI)) (ci := 8) (v := .ref (ad 19)) (C := RX8) (T := TX8) (N := 78) hx hb hts ki8 hown hK hP 0 rfl rfl 30 (by decide) kf67 (fun _ h9 => h9) rfl dX8_readUnder_107 ?_
      refine lv_bipush (v := 9) hx hb dX8_readUnder_110 (by decide) ?_
      refine lv_iconst (v := 3) hx hb dX8_readUnder_112 (by decide) ?_
      refine lv_iload_n hx hb dX8_readUnder_113 rfl (lv_at hl 1 rfl) ?_
      refine lv_imul hx hb dX8_readUnder_114 ?_
      refine lv_iadd hx hb dX8_readUnder_115 ?_
      refine lv_iload_n hx hb dX8_readUnder_116 rfl (lv_at hl 2 rfl) ?_
      refine lv_iadd hx hb dX8_readUnder_117 ?_
      refine lv_iconst (v := 1) hx hb dX8_readUnder_118 (by decide) ?_
      obtain ⟨g_89, h⟩ := g_n h
      refine va_zast (f := (x_aM 30)) hx hb hK hP hD hS 19 4 rfl rfl g_89 dX8_readUnder_119 (fun H locs hP hD hS => ?_)
      have hP : va_P (dC, dI) vwCl (zzM ad cy (us x_iM [(2, q103.1), (3, q103.2.1), (4, q103.2.2.1), (5, q103.2.2.2.1), (6, q103.2.2.2.2)]) (us x_aM [(30, (upd ((x_aM 30)) ((((9 : Int32) + ((3 : Int32) * v1)) + v2)).toNatClampNeg (vp_nar .boolean ((1 : Int32)))))])) H := Eq.mp (congrArg (fun w => va_P (dC, dI) vwCl w H) (sfM_aM30 ad cy (us x_iM [(2, q103.1), (3, q103.2.1), (4, q103.2.2.1), (5, q103.2.2.2.1), (6, q103.2.2.2.2)]) x_aM ((upd ((x_aM 30)) ((((9 : Int32) + ((3 : Int32) * v1)) + v2)).toNatClampNeg (vp_nar .boolean ((1 : Int32))))))) hP
      have hD : va_D A (zzM ad cy (us x_iM [(2, q103.1), (3, q103.2.1), (4, q103.2.2.1), (5, q103.2.2.2.1), (6, q103.2.2.2.2)]) (us x_aM [(30, (upd ((x_aM 30)) ((((9 : Int32) + ((3 : Int32) * v1)) + v2)).toNatClampNeg (vp_nar .boolean ((1 : Int32)))))])) := Eq.mp (congrArg (fun w => va_D A w) (sfM_aM30 ad cy (us x_iM [(2, q103.1), (3, q103.2.1), (4, q103.2.2.1), (5, q103.2.2.2.1), (6, q103.2.2.2.2)]) x_aM ((upd ((x_aM 30)) ((((9 : Int32) + ((3 : Int32) * v1)) + v2)).toNatClampNeg (vp_nar .boolean ((1 : Int32))))))) hD
      refine lv_aload_n hx hb dX8_readUnder_120 rfl (lv_at hl 0 rfl) ?_
      refine va_get (D := (dC, dI)) (ci := 8) (v := .ref (ad 20)) (C := RX8) (T := TX8) (N := 78) hx hb hts ki8 hown hK hP 0 rfl rfl 31 (by decide) kf70 (fun _ h9 => h9) rfl dX8_readUnder_121 ?_
      refine lv_iconst (v := 3) hx hb dX8_readUnder_124 (by decide) ?_
      refine lv_iload_n hx hb dX8_readUnder_125 rfl (lv_at hl 1 rfl) ?_
      refine lv_iadd hx hb dX8_readUnder_126 ?_
      refine lv_iconst (v := 1) hx hb dX8_readUnder_127 (by decide) ?_
      obtain ⟨g_57, h⟩ := g_n h
      refine va_zast (f := (x_aM 31)) hx hb hK hP hD hS 20 4 rfl rfl g_57 dX8_readUnder_128 (fun H locs hP hD hS => ?_)
      have hP : va_P (dC, dI) vwCl (zzM ad cy (us x_iM [(2, q103.1), (3, q103.2.1), (4, q103.2.2.1), (5, q103.2.2.2.1), (6, q103.2.2.2.2)]) (us x_aM [(30, (upd ((x_aM 30)) ((((9 : Int32) + ((3 : Int32) * v1)) + v2)).toNatClampNeg (vp_nar .boolean ((1 : Int32))))), (31, (upd ((x_aM 31)) (((3 : Int32) + v1)).toNatClampNeg (vp_nar .boolean ((1 : Int32)))))])) H := Eq.mp (congrArg (fun w => va_P (dC, dI) vwCl w H) (stM_aM31 ad cy (us x_iM [(2, q103.1), (3, q103.2.1), (4, q103.2.2.1), (5, q103.2.2.2.1), (6, q103.2.2.2.2)]) x_aM [(30, (upd ((x_aM 30)) ((((9 : Int32) + ((3 : Int32) * v1)) + v2)).toNatClampNeg (vp_nar .boolean ((1 : Int32)))))] ((upd ((x_aM 31)) (((3 : Int32) + v1)).toNatClampNeg (vp_nar .boolean ((1 : Int32))))))) hP
      have hD : va_D A (zzM ad cy (us x_iM [(2, q103.1), (3, q103.2.1), (4, q103.2.2.1), (5, q103.2.2.2.1), (6, q103.2.2.2.2)]) (us x_aM [(30, (upd ((x_aM 30)) ((((9 : Int32) + ((3 : Int32) * v1)) + v2)).toNatClampNeg (vp_nar .boolean ((1 : Int32))))), (31, (upd ((x_aM 31)) (((3 : Int32) + v1)).toNatClampNeg (vp_nar .boolean ((1 : Int32)))))])) := Eq.mp (congrArg (fun w => va_D A w) (stM_aM31 ad cy (us x_iM [(2, q103.1), (3, q103.2.1), (4, q103.2.2.1), (5, q103.2.2.2.1), (6, q103.2.2.2.2)]) x_aM [(30, (upd ((x_aM 30)) ((((9 : Int32) + ((3 : Int32) * v1)) + v2)).toNatClampNeg (vp_nar .boolean ((1 : Int32)))))] ((upd ((x_aM 31)) (((3 : Int32) + v1)).toNatClampNeg (vp_nar .boolean ((1 : Int32))))))) hD
      refine lv_aload_n hx hb dX8_readUnder_129 rfl (lv_at hl 0 rfl) ?_
      refine va_get (D := (dC, dI)) (ci := 8) (v := .ref (ad 20)) (C := RX8) (T := TX8) (N := 78) hx hb hts ki8 hown hK hP 0 rfl rfl 31 (by decide) kf70 (fun _ h9 => h9) rfl dX8_readUnder_130 ?_
      refine lv_iconst (v := 3) hx hb dX8_readUnder_133 (by decide) ?_
      refine lv_iload_n hx hb dX8_readUnder_134 rfl (lv_at hl 2 rfl) ?_
      refine lv_iadd hx hb dX8_readUnder_135 ?_
      refine lv_iconst (v := 1) hx hb dX8_readUnder_136 (by decide) ?_
      obtain ⟨g_90, h⟩ := g_n h
      refine va_zast (f := (upd ((x_aM 31)) (((3 : Int32) + v1)).toNatClampNeg (vp_nar .boolean ((1 : Int32))))) hx hb hK hP hD hS 20 4 rfl rfl g_90 dX8_readUnder_137 (fun H locs hP hD hS => ?_)
      have hP : va_P (dC, dI) vwCl (zzM ad cy (us x_iM [(2, q103.1), (3, q103.2.1), (4, q103.2.2.1), (5, q103.2.2.2.1), (6, q103.2.2.2.2)]) (us x_aM [(30, (upd ((x_aM 30)) ((((9 : Int32) + ((3 : Int32) * v1)) + v2)).toNatClampNeg (vp_nar .boolean ((1 : Int32))))), (31, (upd ((upd ((x_aM 31)) (((3 : Int32) + v1)).toNatClampNeg (vp_nar .boolean ((1 : Int32))))) (((3 : Int32) + v2)).toNatClampNeg (vp_nar .boolean ((1 : Int32)))))])) H := Eq.mp (congrArg (fun w => va_P (dC, dI) vwCl w H) (stM_aM31 ad cy (us x_iM [(2, q103.1), (3, q103.2.1), (4, q103.2.2.1), (5, q103.2.2.2.1), (6, q103.2.2.2.2)]) x_aM [(30, (upd ((x_aM 30)) ((((9 : Int32) + ((3 : Int32) * v1)) + v2)).toNatClampNeg (vp_nar .boolean ((1 : Int32))))), (31, (upd ((x_aM 31)) (((3 : Int32) + v1)).toNatClampNeg (vp_nar .boolean ((1 : Int32)))))] ((upd ((upd ((x_aM 31)) (((3 : Int32) + v1)).toNatClampNeg (vp_nar .boolean ((1 : Int32))))) (((3 : Int32) + v2)).toNatClampNeg (vp_nar .boolean ((1 : Int32))))))) hP
      have hD : va_D A (zzM ad cy (us x_iM [(2, q103.1), (3, q103.2.1), (4, q103.2.2.1), (5, q103.2.2.2.1), (6, q103.2.2.2.2)]) (us x_aM [(30, (upd ((x_aM 30)) ((((9 : Int32) + ((3 : Int32) * v1)) + v2)).toNatClampNeg (vp_nar .boolean ((1 : Int32))))), (31, (upd ((upd ((x_aM 31)) (((3 : Int32) + v1)).toNatClampNeg (vp_nar .boolean ((1 : Int32))))) (((3 : Int32) + v2)).toNatClampNeg (vp_nar .boolean ((1 : Int32)))))])) := Eq.mp (congrArg (fun w => va_D A w) (stM_aM31 ad cy (us x_iM [(2, q103.1), (3, q103.2.1), (4, q103.2.2.1), (5, q103.2.2.2.1), (6, q103.2.2.2.2)]) x_aM [(30, (upd ((x_aM 30)) ((((9 : Int32) + ((3 : Int32) * v1)) + v2)).toNatClampNeg (vp_nar .boolean ((1 : Int32))))), (31, (upd ((x_aM 31)) (((3 : Int32) + v1)).toNatClampNeg (vp_nar .boolean ((1 : Int32)))))] ((upd ((upd ((x_aM 31)) (((3 : Int32) + v1)).toNatClampNeg (vp_nar .boolean ((1 : Int32))))) (((3 : Int32) + v2)).toNatClampNeg (vp_nar .boolean ((1 : Int32))))))) hD
      refine lv_aload_n hx hb dX8_readUnder_138 rfl (lv_at hl 0 rfl) ?_
      refine lv_iconst (v := 3) hx hb dX8_readUnder_139 (by decide) ?_
      refine lv_iload_n hx hb dX8_readUnder_140 rfl (lv_at hl 1 rfl) ?_
      refine lv_iload_n hx hb dX8_readUnder_141 rfl (lv_at hl 2 rfl) ?_
      obtain ⟨q142, e142, h⟩ := g_b h
      refine callVvs (cc := cX8_readUnder) (w1 := zzM ad cy (us x_iM [(2, q103.1), (3, q103.2.1), (4, q103.2.2.1), (5, q103.2.2.2.1), (6, q103.2.2.2.2), (40, q142.1)]) (us x_aM [(15, q142.2.1), (16, q142.2.2.1), (17, q142.2.2.2), (30, (upd ((x_aM 30)) ((((9 : Int32) + ((3 : Int32) * v1)) + v2)).toNatClampNeg (vp_nar .boolean ((1 : Int32))))), (31, (upd ((upd ((x_aM 31)) (((3 : Int32) + v1)).toNatClampNeg (vp_nar .boolean ((1 : Int32))))) (((3 : Int32) + v2)).toNatClampNeg (vp_nar .boolean ((1 : Int32)))))])) (As := [.int ((3 : Int32)), .int v1, .int v2]) (rest := []) ⟨hx, hb, hml, hown, hts⟩ (c_M_say l dC dI cy ad H.size ((3 : Int32)) v1 v2 ((us x_iM [(2, q103.1), (3, q103.2.1), (4, q103.2.2.1), (5, q103.2.2.2.1), (6, q103.2.2.2.2)])) ((us x_aM [(30, (upd ((x_aM 30)) ((((9 : Int32) + ((3 : Int32) * v1)) + v2)).toNatClampNeg (vp_nar .boolean ((1 : Int32))))), (31, (upd ((upd ((x_aM 31)) (((3 : Int32) + v1)).toNatClampNeg (vp_nar .boolean ((1 : Int32))))) (((3 : Int32) + v2)).toNatClampNeg (vp_nar .boolean ((1 : Int32)))))])) q142 e142) (cwV 3 hts (goodV m_ml_X8_301 m_im_X8_say m_se_X8_say m_in_X8 m_cd_X8_say) rfl rfl rfl (by decide +kernel) ⟨Nat.le_of_ble_eq_true rfl, Nat.le_of_ble_eq_true rfl⟩) hN hK hP hD hS hA rfl 0 rfl rfl rfl hl.1 rfl (Nat.le_of_ble_eq_true rfl) dX8_readUnder_142 ⟨Nat.zero_le _, Nat.zero_le _⟩ (fun H locs hP hD hS => ?_)
      have h' := Option.some.inj h
      rw [← hQQ]
      exact W.vret hx hb hr (fun t ht hW => ⟨⟨(), rfl, trivial, by rw [← hWQ, ← h', ht]; exact hP, va_K.moved hW.alike hK⟩, hS.F ht⟩) hS.2.2 dX8_readUnder_145
  have B85 : ∀ (v1 : Int32) (v2 : Int32) (x_iM : Nat → Int32) (x_aM : Nat → Nat → Int32) (H : Heap) (locs : List Loc) (ls : Array Slot), f_M_readUnder_85 N iM aM v1 v2 x_iM x_aM = some q → va_P (dC, dI) vwCl (zzM ad cy x_iM x_aM) H → va_D A (zzM ad cy x_iM x_aM) → va_S A s.heap H locs → lv_has ls 3 [(0, .ref (ad 0)), (1, .int v1), (2, .int v2)] → W p l e ({ frames := 3, cells := 0, slots := 0, locals := 68 } : Room) s m args below meth c H locs 0 0 QQ (F0 m 85 ls []) := by
    intro v1 v2 x_iM x_aM H locs ls h hP hD hS hl
    unfold f_M_readUnder_85 at h
    refine lv_aload_n hx hb dX8_readUnder_85 rfl (lv_at hl 0 rfl) ?_
    refine lv_bipush (v := 6) hx hb dX8_readUnder_86 (by decide) ?_
    refine lv_aload_n hx hb dX8_readUnder_88 rfl (lv_at hl 0 rfl) ?_
    refine va_get (D := (dC, dI)) (ci := 8) (v := .int ((x_iM 4))) (C := RX8) (T := TX8) (N := 78) hx hb hts ki8 hown hK hP 0 rfl rfl 4 (by decide) kf169 (fun _ h9 => h9) rfl dX8_readUnder_89 ?_
    obtain ⟨q92, e92, h⟩ := g_b h
    refine callVvs (cc := cX8_readUnder) (w1 := zzM ad cy (us x_iM [(46, q92.1), (47, q92.2)]) x_aM) (As := [.int ((6 : Int32)), .int ((x_iM 4))]) (rest := []) ⟨hx, hb, hml, hown, hts⟩ (c_M_wrong l dC dI cy ad H.size ((6 : Int32)) ((x_iM 4)) x_iM x_aM q92 e92) (cwV 2 hts (goodV m_ml_X8_194 m_im_X8_wrong m_se_X8_wrong m_in_X8 m_cd_X8_wrong) rfl rfl rfl (by decide +kernel) ⟨Nat.le_of_ble_eq_true rfl, Nat.le_of_ble_eq_true rfl⟩) hN hK hP hD hS hA rfl 0 rfl rfl rfl hl.1 rfl (Nat.le_of_ble_eq_true rfl) dX8_readUnder_92 ⟨Nat.zero_le _, Nat.zero_le _⟩ (fun H locs hP hD hS => ?_)
    exact B95 v1 v2 ((us x_iM [(46, q92.1), (47, q92.2)])) x_aM H locs ls h hP hD hS (lv_sub hl [0, 1, 2] rfl)
  have B48 : ∀ (v1 : Int32) (x_iM : Nat → Int32) (x_aM : Nat → Nat → Int32) (H : Heap) (locs : List Loc) (ls : Array Slot), f_M_readUnder_48 N iM aM v1 x_iM x_aM = some q → va_P (dC, dI) vwCl (zzM ad cy x_iM x_aM) H → va_D A (zzM ad cy x_iM x_aM) → va_S A s.heap H locs → lv_has ls 3 [(0, .ref (ad 0)), (1, .int v1)] → W p l e ({ frames := 3, cells := 0, slots := 0, locals := 68 } : Room) s m args below meth c H locs 0 0 QQ (F0 m 48 ls []) := by
    intro v1 x_iM x_aM H locs ls h hP hD hS hl
    unfold f_M_readUnder_48 at h
    refine lv_aload_n hx hb dX8_readUnder_48 rfl (lv_at hl 0 rfl) ?_
    obtain ⟨q49, e49, h⟩ := g_b h
    refine callVis (cc := cX8_readUnder) (w1 := zzM ad cy (us x_iM [(44, q49.2.1), (46, q49.2.2.1), (47, q49.2.2.2.1)]) (us x_aM [(26, q49.2.2.2.2.1), (27, q49.2.2.2.2.2.1), (29, q49.2.2.2.2.2.2.1), (31, q49.2.2.2.2.2.2.2)])) (As := []) (rest := []) ⟨hx, hb, hml, hown, hts⟩ (c_M_readRole l dC dI cy ad H.size N x_iM x_aM q49 e49) (cwV 0 hts (goodV m_ml_X8_277 m_im_X8_readRole m_se_X8_readRole m_in_X8 m_cd_X8_readRole) rfl rfl rfl (by decide +kernel) ⟨Nat.le_of_ble_eq_true rfl, Nat.le_of_ble_eq_true rfl⟩) hN hK hP hD hS hA rfl 0 rfl rfl rfl hl.1 rfl (Nat.le_of_ble_eq_true rfl) dX8_readUnder_49 ⟨Nat.zero_le _, Nat.zero_le _⟩ (fun H locs hP hD hS => ?_)
    refine lv_istore_n (lv' := [(2, .int q49.1), (0, .ref (ad 0)), (1, .int v1)]) hx hb dX8_readUnder_52 rfl hl (by decide) rfl (fun ls hl => ?_)
    refine lv_aload_n hx hb dX8_readUnder_53 rfl (lv_at hl 1 rfl) ?_
    obtain ⟨q54, e54, h⟩ := g_b h
    refine callVis (cc := cX8_readUnder) (w1 := zzM ad cy (us x_iM [(44, q49.2.1), (46, q49.2.2.1), (47, q49.2.2.2.1)]) (us x_aM [(26, q49.2.2.2.2.1), (27, q49.2.2.2.2.2.1), (29, q49.2.2.2.2.2.2.1), (31, q49.2.2.2.2.2.2.2)])) (As := []) (rest := []) ⟨hx, hb, hml, hown, hts⟩ (c_M_fine l dC dI cy ad H.size ((us x_iM [(44, q49.2.1), (46, q49.2.2.1), (47, q49.2.2.2.1)])) ((us x_aM [(26, q49.2.2.2.2.1), (27, q49.2.2.2.2.2.1), (29, q49.2.2.2.2.2.2.1), (31, q49.2.2.2.2.2.2.2)])) q54 e54) (cwV 0 hts (goodV m_ml_X8_198 m_im_X8_fine m_se_X8_fine m_in_X8 m_cd_X8_fine) rfl rfl rfl (by decide +kernel) ⟨Nat.le_of_ble_eq_true rfl, Nat.le_of_ble_eq_true rfl⟩) hN hK hP hD hS hA rfl 0 rfl rfl rfl hl.1 rfl (Nat.le_of_ble_eq_true rfl) dX8_readUnder_54 ⟨Nat.zero_le _, Nat.zero_le _⟩ (fun H locs hP hD hS => ?_)
    refine lv_if_eq (tgt := 95) hx hb dX8_readUnder_57 (by decide) (fun cz => ?_) (fun cz => ?_)
    · have h := g_t h cz
      exact B95 v1 q49.1 ((us x_iM [(44, q49.2.1), (46, q49.2.2.1), (47, q49.2.2.2.1)])) ((us x_aM [(26, q49.2.2.2.2.1), (27, q49.2.2.2.2.2.1), (29, q49.2.2.2.2.2.2.1), (31, q49.2.2.2.2.2.2.2)])) H locs ls h hP hD hS (lv_sub hl [1, 2, 0] rfl)
    · have h := g_f h cz
      refine lv_aload_n hx hb dX8_readUnder_60 rfl (lv_at hl 1 rfl) ?_
      refine va_get (D := (dC, dI)) (ci := 8) (v := .ref (ad 18)) (C := RX8) (T := TX8) (N := 78) hx hb hts ki8 hown hK hP 0 rfl rfl 29 (by decide) kf63 (fun _ h9 => h9) rfl dX8_readUnder_61 ?_
      refine lv_iconst (v := 3) hx hb dX8_readUnder_64 (by decide) ?_
      refine lv_iload_n hx hb dX8_readUnder_65 rfl (lv_at hl 0 rfl) ?_
      refine lv_iadd hx hb dX8_readUnder_66 ?_
      obtain ⟨g_91, h⟩ := g_n h
      refine va_zald (f := q49.2.2.2.2.2.2.1) hx hb hK hP 18 4 rfl rfl g_91 dX8_readUnder_67 ?_
      refine lv_if_ne (tgt := 85) hx hb dX8_readUnder_68 (by decide) (fun cz => ?_) (fun cz => ?_)
      · have h := g_f h cz
        exact B85 v1 q49.1 ((us x_iM [(44, q49.2.1), (46, q49.2.2.1), (47, q49.2.2.2.1)])) ((us x_aM [(26, q49.2.2.2.2.1), (27, q49.2.2.2.2.2.1), (29, q49.2.2.2.2.2.2.1), (31, q49.2.2.2.2.2.2.2)])) H locs ls h hP hD hS (lv_sub hl [1, 2, 0] rfl)
      · have h := g_t h cz
        refine lv_iload_n hx hb dX8_readUnder_71 rfl (lv_at hl 0 rfl) ?_
        refine lv_iload_n hx hb dX8_readUnder_72 rfl (lv_at hl 2 rfl) ?_
        refine lv_icmp_eq (tgt := 85) hx hb dX8_readUnder_73 (by decide) (fun cz => ?_) (fun cz => ?_)
        · have h := g_t h cz
          exact B85 v1 q49.1 ((us x_iM [(44, q49.2.1), (46, q49.2.2.1), (47, q49.2.2.2.1)])) ((us x_aM [(26, q49.2.2.2.2.1), (27, q49.2.2.2.2.2.1), (29, q49.2.2.2.2.2.2.1), (31, q49.2.2.2.2.2.2.2)])) H locs ls h hP hD hS (lv_sub hl [1, 2, 0] rfl)
        · have h := g_f h cz
          refine lv_aload_n hx hb dX8_readUnder_76 rfl (lv_at hl 1 rfl) ?_
          refine lv_iload_n hx hb dX8_readUnder_77 rfl (lv_at hl 0 rfl) ?_
          refine lv_iload_n hx hb dX8_readUnder_78 rfl (lv_at hl 2 rfl) ?_
          obtain ⟨q79, e79, h⟩ := g_b h
          refine callVis (cc := cX8_readUnder) (w1 := zzM ad cy (us x_iM [(44, q49.2.1), (46, q49.2.2.1), (47, q49.2.2.2.1)]) (us x_aM [(26, q49.2.2.2.2.1), (27, q49.2.2.2.2.2.1), (29, q49.2.2.2.2.2.2.1), (31, q49.2.2.2.2.2.2.2)])) (As := [.int q49.1, .int v1]) (rest := []) ⟨hx, hb, hml, hown, hts⟩ (c_M_reaches l dC dI cy ad H.size N q49.1 v1 ((us x_iM [(44, q49.2.1), (46, q49.2.2.1), (47, q49.2.2.2.1)])) ((us x_aM [(26, q49.2.2.2.2.1), (27, q49.2.2.2.2.2.1), (29, q49.2.2.2.2.2.2.1), (31, q49.2.2.2.2.2.2.2)])) q79 e79) (cwV 2 hts (goodV m_ml_X8_298 m_im_X8_reaches m_se_X8_reaches m_in_X8 m_cd_X8_reaches) rfl rfl rfl (by decide +kernel) ⟨Nat.le_of_ble_eq_true rfl, Nat.le_of_ble_eq_true rfl⟩) hN hK hP hD hS hA rfl 0 rfl rfl rfl hl.1 rfl (Nat.le_of_ble_eq_true rfl) dX8_readUnder_79 ⟨Nat.zero_le _, Nat.zero_le _⟩ (fun H locs hP hD hS => ?_)
          refine lv_if_eq (tgt := 95) hx hb dX8_readUnder_82 (by decide) (fun cz => ?_) (fun cz => ?_)
          · have h := g_t h cz
            exact B95 v1 q49.1 ((us x_iM [(44, q49.2.1), (46, q49.2.2.1), (47, q49.2.2.2.1)])) ((us x_aM [(26, q49.2.2.2.2.1), (27, q49.2.2.2.2.2.1), (29, q49.2.2.2.2.2.2.1), (31, q49.2.2.2.2.2.2.2)])) H locs ls h hP hD hS (lv_sub hl [1, 2, 0] rfl)
          · have h := g_f h cz
            exact B85 v1 q49.1 ((us x_iM [(44, q49.2.1), (46, q49.2.2.1), (47, q49.2.2.2.1)])) ((us x_aM [(26, q49.2.2.2.2.1), (27, q49.2.2.2.2.2.1), (29, q49.2.2.2.2.2.2.1), (31, q49.2.2.2.2.2.2.2)])) H locs ls h hP hD hS (lv_sub hl [1, 2, 0] rfl)
  have B37 : ∀ (v1 : Int32) (x_iM : Nat → Int32) (x_aM : Nat → Nat → Int32) (H : Heap) (locs : List Loc) (ls : Array Slot), f_M_readUnder_37 N iM aM v1 x_iM x_aM = some q → va_P (dC, dI) vwCl (zzM ad cy x_iM x_aM) H → va_D A (zzM ad cy x_iM x_aM) → va_S A s.heap H locs → lv_has ls 3 [(0, .ref (ad 0)), (1, .int v1)] → W p l e ({ frames := 3, cells := 0, slots := 0, locals := 68 } : Room) s m args below meth c H locs 0 0 QQ (F0 m 37 ls []) := by
    intro v1 x_iM x_aM H locs ls h hP hD hS hl
    unfold f_M_readUnder_37 at h
    refine lv_aload_n hx hb dX8_readUnder_37 rfl (lv_at hl 0 rfl) ?_
    obtain ⟨q38, e38, h⟩ := g_b h
    refine callVis (cc := cX8_readUnder) (w1 := zzM ad cy x_iM x_aM) (As := []) (rest := []) ⟨hx, hb, hml, hown, hts⟩ (c_M_fine l dC dI cy ad H.size x_iM x_aM q38 e38) (cwV 0 hts (goodV m_ml_X8_198 m_im_X8_fine m_se_X8_fine m_in_X8 m_cd_X8_fine) rfl rfl rfl (by decide +kernel) ⟨Nat.le_of_ble_eq_true rfl, Nat.le_of_ble_eq_true rfl⟩) hN hK hP hD hS hA rfl 0 rfl rfl rfl hl.1 rfl (Nat.le_of_ble_eq_true rfl) dX8_readUnder_38 ⟨Nat.zero_le _, Nat.zero_le _⟩ (fun H locs hP hD hS => ?_)
    refine lv_if_eq (tgt := 48) hx hb dX8_readUnder_41 (by decide) (fun cz => ?_) (fun cz => ?_)
    · have h := g_t h cz
      exact B48 v1 x_iM x_aM H locs ls h hP hD hS (lv_sub hl [0, 1] rfl)
    · have h := g_f h cz
      refine lv_aload_n hx hb dX8_readUnder_44 rfl (lv_at hl 0 rfl) ?_
      obtain ⟨q45, e45, h⟩ := g_b h
      refine callVvs (cc := cX8_readUnder) (w1 := zzM ad cy (us x_iM [(2, q45.1), (3, q45.2.1), (4, q45.2.2.1), (5, q45.2.2.2.1), (6, q45.2.2.2.2)]) x_aM) (As := []) (rest := []) ⟨hx, hb, hml, hown, hts⟩ (c_M_next l dC dI cy ad H.size N x_iM x_aM q45 e45) (cwV 0 hts (goodV m_ml_X8_205 m_im_X8_next m_se_X8_next m_in_X8 m_cd_X8_next) rfl rfl rfl (by decide +kernel) ⟨Nat.le_of_ble_eq_true rfl, Nat.le_of_ble_eq_true rfl⟩) hN hK hP hD hS hA rfl 0 rfl rfl rfl hl.1 rfl (Nat.le_of_ble_eq_true rfl) dX8_readUnder_45 ⟨Nat.zero_le _, Nat.zero_le _⟩ (fun H locs hP hD hS => ?_)
      exact B48 v1 ((us x_iM [(2, q45.1), (3, q45.2.1), (4, q45.2.2.1), (5, q45.2.2.2.1), (6, q45.2.2.2.2)])) x_aM H locs ls h hP hD hS (lv_sub hl [0, 1] rfl)
  intro H locs hP hD hS
  unfold f_M_readUnder at h
  refine lv_aload_n hx hb dX8_readUnder_0 rfl (lv_at hl 0 rfl) ?_
  obtain ⟨q1, e1, h⟩ := g_b h
  refine callVvs (cc := cX8_readUnder) (w1 := zzM ad cy (us iM [(2, q1.1), (3, q1.2.1), (4, q1.2.2.1), (5, q1.2.2.2.1), (6, q1.2.2.2.2)]) aM) (As := []) (rest := []) ⟨hx, hb, hml, hown, hts⟩ (c_M_next l dC dI cy ad H.size N iM aM q1 e1) (cwV 0 hts (goodV m_ml_X8_205 m_im_X8_next m_se_X8_next m_in_X8 m_cd_X8_next) rfl rfl rfl (by decide +kernel) ⟨Nat.le_of_ble_eq_true rfl, Nat.le_of_ble_eq_true rfl⟩) hN hK hP hD hS hA rfl 0 rfl rfl rfl hl.1 rfl (Nat.le_of_ble_eq_true rfl) dX8_readUnder_1 ⟨Nat.zero_le _, Nat.zero_le _⟩ (fun H locs hP hD hS => ?_)
  refine lv_aload_n hx hb dX8_readUnder_4 rfl (lv_at hl 0 rfl) ?_
  obtain ⟨q5, e5, h⟩ := g_b h
  refine callVis (cc := cX8_readUnder) (w1 := zzM ad cy (us iM [(2, q1.1), (3, q1.2.1), (4, q1.2.2.1), (5, q1.2.2.2.1), (6, q1.2.2.2.2), (44, q5.2.1), (46, q5.2.2.1), (47, q5.2.2.2.1)]) (us aM [(26, q5.2.2.2.2.1), (27, q5.2.2.2.2.2.1), (29, q5.2.2.2.2.2.2.1), (31, q5.2.2.2.2.2.2.2)])) (As := []) (rest := []) ⟨hx, hb, hml, hown, hts⟩ (c_M_readRole l dC dI cy ad H.size N ((us iM [(2, q1.1), (3, q1.2.1), (4, q1.2.2.1), (5, q1.2.2.2.1), (6, q1.2.2.2.2)])) aM q5 e5) (cwV 0 hts (goodV m_ml_X8_277 m_im_X8_readRole m_se_X8_readRole m_in_X8 m_cd_X8_readRole) rfl rfl rfl (by decide +kernel) ⟨Nat.le_of_ble_eq_true rfl, Nat.le_of_ble_eq_true rfl⟩) hN hK hP hD hS hA rfl 0 rfl rfl rfl hl.1 rfl (Nat.le_of_ble_eq_true rfl) dX8_readUnder_5 ⟨Nat.zero_le _, Nat.zero_le _⟩ (fun H locs hP hD hS => ?_)
  refine lv_istore_n (lv' := [(1, .int q5.1), (0, .ref (ad 0))]) hx hb dX8_readUnder_8 rfl hl (by decide) rfl (fun ls hl => ?_)
  refine lv_aload_n hx hb dX8_readUnder_9 rfl (lv_at hl 1 rfl) ?_
  obtain ⟨q10, e10, h⟩ := g_b h
  refine callVis (cc := cX8_readUnder) (w1 := zzM ad cy (us iM [(2, q1.1), (3, q1.2.1), (4, q1.2.2.1), (5, q1.2.2.2.1), (6, q1.2.2.2.2), (44, q5.2.1), (46, q5.2.2.1), (47, q5.2.2.2.1)]) (us aM [(26, q5.2.2.2.2.1), (27, q5.2.2.2.2.2.1), (29, q5.2.2.2.2.2.2.1), (31, q5.2.2.2.2.2.2.2)])) (As := []) (rest := []) ⟨hx, hb, hml, hown, hts⟩ (c_M_fine l dC dI cy ad H.size ((us iM [(2, q1.1), (3, q1.2.1), (4, q1.2.2.1), (5, q1.2.2.2.1), (6, q1.2.2.2.2), (44, q5.2.1), (46, q5.2.2.1), (47, q5.2.2.2.1)])) ((us aM [(26, q5.2.2.2.2.1), (27, q5.2.2.2.2.2.1), (29, q5.2.2.2.2.2.2.1), (31, q5.2.2.2.2.2.2.2)])) q10 e10) (cwV 0 hts (goodV m_ml_X8_198 m_im_X8_fine m_se_X8_fine m_in_X8 m_cd_X8_fine) rfl rfl rfl (by decide +kernel) ⟨Nat.le_of_ble_eq_true rfl, Nat.le_of_ble_eq_true rfl⟩) hN hK hP hD hS hA rfl 0 rfl rfl rfl hl.1 rfl (Nat.le_of_ble_eq_true rfl) dX8_readUnder_10 ⟨Nat.zero_le _, Nat.zero_le _⟩ (fun H locs hP hD hS => ?_)
  refine lv_if_eq (tgt := 37) hx hb dX8_readUnder_13 (by decide) (fun cz => ?_) (fun cz => ?_)
  · have h := g_t h cz
    exact B37 q5.1 ((us iM [(2, q1.1), (3, q1.2.1), (4, q1.2.2.1), (5, q1.2.2.2.1), (6, q1.2.2.2.2), (44, q5.2.1), (46, q5.2.2.1), (47, q5.2.2.2.1)])) ((us aM [(26, q5.2.2.2.2.1), (27, q5.2.2.2.2.2.1), (29, q5.2.2.2.2.2.2.1), (31, q5.2.2.2.2.2.2.2)])) H locs ls h hP hD hS (lv_sub hl [1, 0] rfl)
  · have h := g_f h cz
    refine lv_aload_n hx hb dX8_readUnder_16 rfl (lv_at hl 1 rfl) ?_
    refine va_get (D := (dC, dI)) (ci := 8) (v := .ref (ad 18)) (C := RX8) (T := TX8) (N := 78) hx hb hts ki8 hown hK hP 0 rfl rfl 29 (by decide) kf63 (fun _ h9 => h9) rfl dX8_readUnder_17 ?_
    refine lv_iconst (v := 3) hx hb dX8_readUnder_20 (by decide) ?_
    refine lv_iload_n hx hb dX8_readUnder_21 rfl (lv_at hl 0 rfl) ?_
    refine lv_iadd hx hb dX8_readUnder_22 ?_
    obtain ⟨g_92, h⟩ := g_n h
    refine va_zald (f := q5.2.2.2.2.2.2.1) hx hb hK hP 18 4 rfl rfl g_92 dX8_readUnder_23 ?_
    refine lv_if_eq (tgt := 37) hx hb dX8_readUnder_24 (by decide) (fun cz => ?_) (fun cz => ?_)
    · have h := g_t h cz
      exact B37 q5.1 ((us iM [(2, q1.1), (3, q1.2.1), (4, q1.2.2.1), (5, q1.2.2.2.1), (6, q1.2.2.2.2), (44, q5.2.1), (46, q5.2.2.1), (47, q5.2.2.2.1)])) ((us aM [(26, q5.2.2.2.2.1), (27, q5.2.2.2.2.2.1), (29, q5.2.2.2.2.2.2.1), (31, q5.2.2.2.2.2.2.2)])) H locs ls h hP hD hS (lv_sub hl [1, 0] rfl)
    · have h := g_f h cz
      refine lv_aload_n hx hb dX8_readUnder_27 rfl (lv_at hl 1 rfl) ?_
      refine lv_bipush (v := 6) hx hb dX8_readUnder_28 (by decide) ?_
      refine lv_aload_n hx hb dX8_readUnder_30 rfl (lv_at hl 1 rfl) ?_
      refine va_get (D := (dC, dI)) (ci := 8) (v := .int q1.2.2.1) (C := RX8) (T := TX8) (N := 78) hx hb hts ki8 hown hK hP 0 rfl rfl 4 (by decide) kf169 (fun _ h9 => h9) rfl dX8_readUnder_31 ?_
      obtain ⟨q34, e34, h⟩ := g_b h
      refine callVvs (cc := cX8_readUnder) (w1 := zzM ad cy (us iM [(2, q1.1), (3, q1.2.1), (4, q1.2.2.1), (5, q1.2.2.2.1), (6, q1.2.2.2.2), (44, q5.2.1), (46, q34.1), (47, q34.2)]) (us aM [(26, q5.2.2.2.2.1), (27, q5.2.2.2.2.2.1), (29, q5.2.2.2.2.2.2.1), (31, q5.2.2.2.2.2.2.2)])) (As := [.int ((6 : Int32)), .int q1.2.2.1]) (rest := []) ⟨hx, hb, hml, hown, hts⟩ (c_M_wrong l dC dI cy ad H.size ((6 : Int32)) q1.2.2.1 ((us iM [(2, q1.1), (3, q1.2.1), (4, q1.2.2.1), (5, q1.2.2.2.1), (6, q1.2.2.2.2), (44, q5.2.1), (46, q5.2.2.1), (47, q5.2.2.2.1)])) ((us aM [(26, q5.2.2.2.2.1), (27, q5.2.2.2.2.2.1), (29, q5.2.2.2.2.2.2.1), (31, q5.2.2.2.2.2.2.2)])) q34 e34) (cwV 2 hts (goodV m_ml_X8_194 m_im_X8_wrong m_se_X8_wrong m_in_X8 m_cd_X8_wrong) rfl rfl rfl (by decide +kernel) ⟨Nat.le_of_ble_eq_true rfl, Nat.le_of_ble_eq_true rfl⟩) hN hK hP hD hS hA rfl 0 rfl rfl rfl hl.1 rfl (Nat.le_of_ble_eq_true rfl) dX8_readUnder_34 ⟨Nat.zero_le _, Nat.zero_le _⟩ (fun H locs hP hD hS => ?_)
      exact B37 q5.1 ((us iM [(2, q1.1), (3, q1.2.1), (4, q1.2.2.1), (5, q1.2.2.2.1), (6, q1.2.2.2.2), (44, q5.2.1), (46, q34.1), (47, q34.2)])) ((us aM [(26, q5.2.2.2.2.1), (27, q5.2.2.2.2.2.1), (29, q5.2.2.2.2.2.2.1), (31, q5.2.2.2.2.2.2.2)])) H locs ls h hP hD hS (lv_sub hl [1, 0] rfl)
