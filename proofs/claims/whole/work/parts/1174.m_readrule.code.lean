def f_M_readRule_120 (N : Nat) (iM : Nat → Int32) (aM : Nat → Nat → Int32) (v2 : Int32) (s0 : Int32) (x_iM : Nat → Int32) (x_aM : Nat → Nat → Int32) : Option ((Nat → Int32) × (Nat → Nat → Int32)) := (f_M_next N ((x_iM 1)) ((x_iM 2)) ((x_iM 3)) ((x_iM 4)) ((x_iM 5)) ((x_iM 6)) ((x_aM 0))).bind fun q122 => ((f_M_readConcept N ((us x_iM [(2, q122.1), (3, q122.2.1), (4, q122.2.2.1), (5, q122.2.2.2.1), (6, q122.2.2.2.2)])) x_aM).bind fun q126 => ((f_M_fine ((q126.2.1 46))).bind fun q132 => (if q132 = 0 then (some (q126.2.1, q126.2.2)) else (if ((12 : Int32) + (q126.2.1 41)) < 0 ∨ 24 ≤ (((12 : Int32) + (q126.2.1 41))).toNatClampNeg then none else ((f_M_say s0 v2 q126.1 ((q126.2.1 40)) ((q126.2.2 15)) ((q126.2.2 16)) ((q126.2.2 17))).bind fun q159 => (some ((us q126.2.1 [(40, q159.1), (41, ((q126.2.1 41) + (1 : Int32)))]), (us q126.2.2 [(15, q159.2.1), (16, q159.2.2.1), (17, q159.2.2.2), (19, (upd ((q126.2.2 19)) (((12 : Int32) + (q126.2.1 41))).toNatClampNeg ((q126.2.1 40))))]))))))))
def f_M_readRule_98 (N : Nat) (iM : Nat → Int32) (aM : Nat → Nat → Int32) (v2 : Int32) (x_iM : Nat → Int32) (x_aM : Nat → Nat → Int32) : Option ((Nat → Int32) × (Nat → Nat → Int32)) := (f_M_fine ((x_iM 46))).bind fun q99 => (if q99 = 0 then (some (x_iM, x_aM)) else (if (x_iM 6) = (60 : Int32) then (f_M_readRule_120 N iM aM v2 ((0 : Int32)) x_iM x_aM) else (f_M_readRule_120 N iM aM v2 ((1 : Int32)) x_iM x_aM)))
def f_M_readRule_56 (N : Nat) (iM : Nat → Int32) (aM : Nat → Nat → Int32) (x_iM : Nat → Int32) : Option ((Nat → Int32) × (Nat → Nat → Int32)) := (f_M_fine ((x_iM 46))).bind fun q57 => (if q57 = 0 then (some (x_iM, aM)) else ((f_M_readConcept N x_iM aM).bind fun q65 => ((f_M_fine ((q65.2.1 46))).bind fun q70 => (if q70 = 0 then (f_M_readRule_98 N iM aM q65.1 q65.2.1 q65.2.2) else ((f_M_isSignHere ((60 : Int32)) ((q65.2.1 3)) ((q65.2.1 6))).bind fun q79 => (if q79 = 0 then ((f_M_isSignHere ((61 : Int32)) ((q65.2.1 3)) ((q65.2.1 6))).bind fun q88 => (if q88 = 0 then ((f_M_misplaced ((q65.2.1 3)) ((q65.2.1 4)) ((q65.2.1 46)) ((q65.2.1 47))).bind fun q95 => (f_M_readRule_98 N iM aM q65.1 ((us q65.2.1 [(46, q95.1), (47, q95.2)])) q65.2.2)) else (f_M_readRule_98 N iM aM q65.1 q65.2.1 q65.2.2))) else (f_M_readRule_98 N iM aM q65.1 q65.2.1 q65.2.2)))))))
def f_M_readRule_38 (N : Nat) (iM : Nat → Int32) (aM : Nat → Nat → Int32)  : Option ((Nat → Int32) × (Nat → Nat → Int32)) := if (iM 41) = (12 : Int32) then ((f_M_wrong ((3 : Int32)) ((iM 4)) ((iM 46)) ((iM 47))).bind fun q53 => (f_M_readRule_56 N iM aM ((us iM [(46, q53.1), (47, q53.2)])))) else (f_M_readRule_56 N iM aM iM)
def f_M_readRule_31 (N : Nat) (iM : Nat → Int32) (aM : Nat → Nat → Int32)  : Option ((Nat → Int32) × (Nat → Nat → Int32)) := (f_M_misplaced ((iM 3)) ((iM 4)) ((iM 46)) ((iM 47))).bind fun q32 => (f_M_readRule_56 N iM aM ((us iM [(46, q32.1), (47, q32.2)])))
def f_M_readRule (N : Nat) (iM : Nat → Int32) (aM : Nat → Nat → Int32) : Option ((Nat → Int32) × (Nat → Nat → Int32)) := (f_M_kept N ((iM 3)) ((iM 4)) ((iM 5)) ((aM 0)) ((aM 7))).bind fun q1 => ((f_M_isSignHere ((40 : Int32)) ((iM 3)) ((iM 6))).bind fun q8 => (if q8 = 0 then (if (iM 3) = (1 : Int32) then (if q1 < 0 then (f_M_readRule_38 N iM aM) else (if (5 : Int32) ≤ q1 then (f_M_readRule_38 N iM aM) else (f_M_readRule_31 N iM aM))) else (f_M_readRule_31 N iM aM)) else (f_M_readRule_38 N iM aM)))
set_option maxHeartbeats 8000000 in
set_option maxRecDepth 100000 in
theorem c_M_readRule (l : Launch) (dC : Nat → ClassId) (dI : Nat → Nat → Nat) (cy : Nat → ClassId) (ad : Nat → Nat) (sz : Nat) (N : Nat) (iM : Nat → Int32) (aM : Nat → Nat → Int32) (q : (Nat → Int32) × (Nat → Nat → Int32)) (h : f_M_readRule N iM aM = some q) : Met l yX8_readRule wsX8_readRule ({ frames := 6, cells := 0, slots := 0, locals := 136 } : Room) (cP (dC, dI) cy [.ref (ad 0)] (zzM ad cy iM aM) sz) (cQv (dC, dI) cy (zzM ad cy q.1 q.2) (va_A (zzM ad cy iM aM) sz)) 0 0 (va_A (zzM ad cy iM aM) sz) := by
  refine Met.ofW (cc := cX8_readRule) (maxL := 5) (ret := none) (by decide) rfl ?_
  intro p e s m args below meth c s₁ B hml hv
  obtain ⟨hav, hsz, hP, hK, hD0, hN⟩ := hv
  have hx := B.exec
  have hb := B.bytes
  have hr := B.returns
  have hts := atoms_spec (ws := wsX8_readRule) B.pre
  have hown : s.vm.findClass RX8 = some m.cls := findClass_of_methodNamed B.named
  have hlocks := B.notSynchronized
  subst hsz
  have hD := hD0.self (sz := s.heap.size)
  generalize hAe : va_A (zzM ad cy iM aM) s.heap.size = A at hD ⊢
  have hA : ∀ q : Nat, s.heap.size ≤ q → A q := fun q h => by rw [← hAe]; exact Or.inr h
  have hS : va_S A s.heap s.heap [] := va_S.rf
  generalize hWQ : (zzM ad cy q.1 q.2) = WQ
  generalize hQQ : MQ below (cQv (dC, dI) cy WQ A) args s 0 0 A = QQ
  have hl := lv_entry ([.ref (ad 0)] : List Value) (n := 5) (Nat.le_of_ble_eq_true rfl)
  have hfr := lg_entry_eq m ([.ref (ad 0)] : List Value) 5
  rw [← hav] at hfr
  rw [hfr]
  clear hfr hav
  generalize (lg_sl ([.ref (ad 0)] : List Value) ++ List.replicate (5 - (lg_sl ([.ref (ad 0)] : List Value)).length) Slot.unset).toArray = ls at hl ⊢
  have hl : lv_has ls 5 [(0, .ref (ad 0))] := hl
  have kf45 := hts _ (List.mem_cons_of_mem _ m_fl_X8_45)
  have ki8 := (fun w h => List.mem_cons_of_mem _ (i_X8 w h) : ∀ w ∈ u_ws RX8 TX8 78, w ∈ wsX8_readRule)
  have kf311 := hts _ (List.mem_cons_of_mem _ m_fl_X8_311)
  have kf295 := hts _ (List.mem_cons_of_mem _ m_fl_X8_295)
  have kf175 := hts _ (List.mem_cons_of_mem _ m_fl_X8_175)
  have kf169 := hts _ (List.mem_cons_of_mem _ m_fl_X8_169)
  have kf178 := hts _ (List.mem_cons_of_mem _ m_fl_X8_178)
  refine (?_ : ∀ (H : Heap) (locs : List Loc), va_P (dC, dI) vwCl (zzM ad cy iM aM) H → va_D A (zzM ad cy iM aM) → va_S A s.heap H locs → W p l e ({ frames := 6, cells := 0, slots := 0, locals := 136 } : Room) s m args below meth c H locs 0 0 QQ (F0 m 0 ls [])) s.heap [] hP hD hS
  clear hP hD hS
  have B120 : ∀ (v2 : Int32) (s0 : Int32) (x_iM : Nat → Int32) (x_aM : Nat → Nat → Int32) (H : Heap) (locs : List Loc) (ls : Array Slot), f_M_readRule_120 N iM aM v2 s0 x_iM x_aM = some q → va_P (dC, dI) vwCl (zzM ad cy x_iM x_aM) H → va_D A (zzM ad cy x_iM x_aM) → va_S A s.heap H locs → lv_has ls 5 [(0, .ref (ad 0)), (2, .int v2)] → W p l e ({ frames := 6, cells := 0, slots := 0, locals := 136 } : Room) s m args below meth c H locs 0 0 QQ (F0 m 120 ls [.int s0]) := by
    intro v2 s0 x_iM x_aM H locs ls h hP hD hS hl
    unfold f_M_readRule_120 at h
    refine lv_istore_n (lv' := [(3, .int s0), (0, .ref (ad 0)), (2, .int v2)]) hx hb dX8_readRule_120 rfl hl (by decide) rfl (fun ls hl => ?_)
    refine lv_aload_n hx hb dX8_readRule_121 rfl (lv_at hl 1 rfl) ?_
    obtain ⟨q122, e122, h⟩ := g_b h
    refine callVvs (cc := cX8_readRule) (w1 := zzM ad cy (us x_iM [(2, q122.1), (3, q122.2.1), (4, q122.2.2.1), (5, q122.2.2.2.1), (6, q122.2.2.2.2)]) x_aM) (As := []) (rest := []) ⟨hx, hb, hml, hown, hts⟩ (c_M_next l dC dI cy ad H.size N x_iM x_aM q122 e122) (cwV 0 hts (goodV m_ml_X8_205 m_im_X8_next m_se_X8_next m_in_X8 m_cd_X8_next) rfl rfl rfl (by decide +kernel) ⟨Nat.le_of_ble_eq_true rfl, Nat.le_of_ble_eq_true rfl⟩) hN hK hP hD hS hA rfl 0 rfl rfl rfl hl.1 rfl (Nat.le_of_ble_eq_true rfl) dX8_readRule_122 ⟨Nat.zero_le _, Nat.zero_le _⟩ (fun H locs hP hD hS => ?_)
    refine lv_aload_n hx hb dX8_readRule_125 rfl (lv_at hl 1 rfl) ?_
    obtain ⟨q126, e126, h⟩ := g_b h
    refine callVis (cc := cX8_readRule) (w1 := zzM ad cy q126.2.1 q126.2.2) (As := []) (rest := []) ⟨hx, hb, hml, hown, hts⟩ (c_M_readConcept l dC dI cy ad H.size N ((us x_iM [(2, q122.1), (3, q122.2.1), (4, q122.2.2.1), (5, q122.2.2.2.1), (6, q122.2.2.2.2)])) x_aM q126 e126) (cwV 0 hts (goodV m_ml_X8_308 m_im_X8_readConcept m_se_X8_readConcept m_in_X8 m_cd_X8_readConcept) rfl rfl rfl (by decide +kernel) ⟨Nat.le_of_ble_eq_true rfl, Nat.le_of_ble_eq_true rfl⟩) hN hK hP hD hS hA rfl 0 rfl rfl rfl hl.1 rfl (Nat.le_of_ble_eq_true rfl) dX8_readRule_126 ⟨Nat.zero_le _, Nat.zero_le _⟩ (fun H locs hP hD hS => ?_)
    refine lv_istore (lv' := [(4, .int q126.1), (3, .int s0), (0, .ref (ad 0)), (2, .int v2)]) hx hb dX8_readRule_129 hl (by decide) rfl (fun ls hl => ?_)
    refine lv_aload_n hx hb dX8_readRule_131 rfl (lv_at hl 2 rfl) ?_
    obtain ⟨q132, e132, h⟩ := g_b h
    refine callVis (cc := cX8_readRule) (w1 := zzM ad cy q126.2.1 q126.2.2) (As := []) (rest := []) ⟨hx, hb, hml, hown, hts⟩ (c_M_fine l dC dI cy ad H.size q126.2.1 q126.2.2 q132 e132) (cwV 0 hts (goodV m_ml_X8_198 m_im_X8_fine m_se_X8_fine m_in_X8 m_cd_X8_fine) rfl rfl rfl (by decide +kernel) ⟨Nat.le_of_ble_eq_true rfl, Nat.le_of_ble_eq_true rfl⟩) hN hK hP hD hS hA rfl 0 rfl rfl rfl hl.1 rfl (Nat.le_of_ble_eq_true rfl) dX8_readRule_132 ⟨Nat.zero_le _, Nat.zero_le _⟩ (fun H locs hP hD hS => ?_)
    refine lv_if_eq (tgt := 172) hx hb dX8_readRule_135 (by decide) (fun cz => ?_) (fun cz => ?_)
    · have h := g_t h cz
      have h' := Option.some.inj h
      rw [← hQQ]
      exact W.vret hx hb hr (fun t ht hW => ⟨⟨(), rfl, trivial, by rw [← hWQ, ← h', ht]; exact hP, va_K.moved hW.alike hK⟩, hS.F ht⟩) hS.2.2 dX8_readRule_172
    · have h := g_f h cz
      refine lv_aload_n hx hb dX8_readRule_138 rfl (lv_at hl 2 rfl) ?_
      refine va_get (D := (dC, dI)) (ci := 8) (v := .ref (ad 12)) (C := RX8) (T := TX8) (N := 78) hx hb hts ki8 hown hK hP 0 rfl rfl 19 (by decide) kf45 (fun _ h9 => h9) rfl dX8_readRule_139 ?_
      refine lv_bipush (v := 12) hx hb dX8_readRule_142 (by decide) ?_
      refine lv_aload_n hx hb dX8_readRule_144 rfl (lv_at hl 2 rfl) ?_
      refine va_get (D := (dC, dI)) (ci := 8) (v := .int ((q126.2.1 41))) (C := RX8) (T := TX8) (N := 78) hx hb hts ki8 hown hK hP 0 rfl rfl 41 (by decide) kf311 (fun _ h9 => h9) rfl dX8_readRule_145 ?_
      refine lv_iadd hx hb dX8_readRule_148 ?_
      refine lv_aload_n hx hb dX8_readRule_149 rfl (lv_at hl 2 rfl) ?_
      refine va_get (D := (dC, dI)) (ci := 8) (v := .int ((q126.2.1 40))) (C := RX8) (T := TX8) (N := 78) hx hb hts ki8 hown hK hP 0 rfl rfl 40 (by decide) kf295 (fun _ h9 => h9) rfl dX8_readRule_150 ?_
      obtain ⟨g_94, h⟩ := g_n h
      refine va_iast (f := (q126.2.2 19)) hx hb hK hP hD hS 12 0 rfl rfl g_94 dX8_readRule_153 (fun H locs hP hD hS => ?_)
      have hP : va_P (dC, dI) vwCl (zzM ad cy q126.2.1 (us q126.2.2 [(19, (upd ((q126.2.2 19)) (((12 : Int32) + (q126.2.1 41))).toNatClampNeg ((q126.2.1 40))))])) H := Eq.mp (congrArg (fun w => va_P (dC, dI) vwCl w H) (sfM_aM19 ad cy q126.2.1 q126.2.2 ((upd ((q126.2.2 19)) (((12 : Int32) + (q126.2.1 41))).toNatClampNeg ((q126.2.1 40)))))) hP
      have hD : va_D A (zzM ad cy q126.2.1 (us q126.2.2 [(19, (upd ((q126.2.2 19)) (((12 : Int32) + (q126.2.1 41))).toNatClampNeg ((q126.2.1 40))))])) := Eq.mp (congrArg (fun w => va_D A w) (sfM_aM19 ad cy q126.2.1 q126.2.2 ((upd ((q126.2.2 19)) (((12 : Int32) + (q126.2.1 41))).toNatClampNeg ((q126.2.1 40)))))) hD
      refine lv_aload_n hx hb dX8_readRule_154 rfl (lv_at hl 2 rfl) ?_
      refine lv_iload_n hx hb dX8_readRule_155 rfl (lv_at hl 1 rfl) ?_
      refine lv_iload_n hx hb dX8_readRule_156 rfl (lv_at hl 3 rfl) ?_
      refine lv_iload hx hb dX8_readRule_157 (lv_at hl 0 rfl) ?_
      obtain ⟨q159, e159, h⟩ := g_b h
      refine callVvs (cc := cX8_readRule) (w1 := zzM ad cy (us q126.2.1 [(40, q159.1)]) (us q126.2.2 [(15, q159.2.1), (16, q159.2.2.1), (17, q159.2.2.2), (19, (upd ((q126.2.2 19)) (((12 : Int32) + (q126.2.1 41))).toNatClampNeg ((q126.2.1 40))))])) (As := [.int s0, .int v2, .int q126.1]) (rest := []) ⟨hx, hb, hml, hown, hts⟩ (c_M_say l dC dI cy ad H.size s0 v2 q126.1 q126.2.1 ((us q126.2.2 [(19, (upd ((q126.2.2 19)) (((12 : Int32) + (q126.2.1 41))).toNatClampNeg ((q126.2.1 40))))])) q159 e159) (cwV 3 hts (goodV m_ml_X8_301 m_im_X8_say m_se_X8_say m_in_X8 m_cd_X8_say) rfl rfl rfl (by decide +kernel) ⟨Nat.le_of_ble_eq_true rfl, Nat.le_of_ble_eq_true rfl⟩) hN hK hP hD hS hA rfl 0 rfl rfl rfl hl.1 rfl (Nat.le_of_ble_eq_true rfl) dX8_readRule_159 ⟨Nat.zero_le _, Nat.zero_le _⟩ (fun H locs hP hD hS => ?_)
      refine lv_aload_n hx hb dX8_readRule_162 rfl (lv_at hl 2 rfl) ?_
      refine lv_dup hx hb dX8_readRule_163 rfl ?_
      refine va_get (D := (dC, dI)) (ci := 8) (v := .int ((q126.2.1 41))) (C := RX8) (T := TX8) (N := 78) hx hb hts ki8 hown hK hP 0 rfl rfl 41 (by decide) kf311 (fun _ h9 => h9) rfl dX8_readRule_164 ?_
      refine lv_iconst (v := 1) hx hb dX8_readRule_167 (by decide) ?_
      refine lv_iadd hx hb dX8_readRule_168 ?_
      refine va_put (D := (dC, dI)) (ci := 8) (v := .int (((q126.2.1 41) + (1 : Int32)))) (ty := .int) (C := RX8) (T := TX8) (N := 78) hx hb hts ki8 tyX8 tyX8_ok nmX8 hown hK hP hD hS 0 rfl rfl 41 (by decide) kf311 (fun _ h9 => h9) rfl (by decide +kernel) rfl rfl (Nat.le_of_ble_eq_true rfl) dX8_readRule_169 (fun H locs hP hD hS => ?_)
      have hP : va_P (dC, dI) vwCl (zzM ad cy (us q126.2.1 [(40, q159.1), (41, ((q126.2.1 41) + (1 : Int32)))]) (us q126.2.2 [(15, q159.2.1), (16, q159.2.2.1), (17, q159.2.2.2), (19, (upd ((q126.2.2 19)) (((12 : Int32) + (q126.2.1 41))).toNatClampNeg ((q126.2.1 40))))])) H := Eq.mp (congrArg (fun w => va_P (dC, dI) vwCl w H) (stM_iM41 ad cy q126.2.1 (us q126.2.2 [(15, q159.2.1), (16, q159.2.2.1), (17, q159.2.2.2), (19, (upd ((q126.2.2 19)) (((12 : Int32) + (q126.2.1 41))).toNatClampNeg ((q126.2.1 40))))]) [(40, q159.1)] (((q126.2.1 41) + (1 : Int32))))) hP
      have hD : va_D A (zzM ad cy (us q126.2.1 [(40, q159.1), (41, ((q126.2.1 41) + (1 : Int32)))]) (us q126.2.2 [(15, q159.2.1), (16, q159.2.2.1), (17, q159.2.2.2), (19, (upd ((q126.2.2 19)) (((12 : Int32) + (q126.2.1 41))).toNatClampNeg ((q126.2.1 40))))])) := Eq.mp (congrArg (fun w => va_D A w) (stM_iM41 ad cy q126.2.1 (us q126.2.2 [(15, q159.2.1), (16, q159.2.2.1), (17, q159.2.2.2), (19, (upd ((q126.2.2 19)) (((12 : Int32) + (q126.2.1 41))).toNatClampNeg ((q126.2.1 40))))]) [(40, q159.1)] (((q126.2.1 41) + (1 : Int32))))) hD
      have h' := Option.some.inj h
      rw [← hQQ]
      exact W.vret hx hb hr (fun t ht hW => ⟨⟨(), rfl, trivial, by rw [← hWQ, ← h', ht]; exact hP, va_K.moved hW.alike hK⟩, hS.F ht⟩) hS.2.2 dX8_readRule_172
  have B98 : ∀ (v2 : Int32) (x_iM : Nat → Int32) (x_aM : Nat → Nat → Int32) (H : Heap) (locs : List Loc) (ls : Array Slot), f_M_readRule_98 N iM aM v2 x_iM x_aM = some q → va_P (dC, dI) vwCl (zzM ad cy x_iM x_aM) H → va_D A (zzM ad cy x_iM x_aM) → va_S A s.heap H locs → lv_has ls 5 [(0, .ref (ad 0)), (2, .int v2)] → W p l e ({ frames := 6, cells := 0, slots := 0, locals := 136 } : Room) s m args below meth c H locs 0 0 QQ (F0 m 98 ls []) := by
    intro v2 x_iM x_aM H locs ls h hP hD hS hl
    unfold f_M_readRule_98 at h
    refine lv_aload_n hx hb dX8_readRule_98 rfl (lv_at hl 0 rfl) ?_
    obtain ⟨q99, e99, h⟩ := g_b h
    refine callVis (cc := cX8_readRule) (w1 := zzM ad cy x_iM x_aM) (As := []) (rest := []) ⟨hx, hb, hml, hown, hts⟩ (c_M_fine l dC dI cy ad H.size x_iM x_aM q99 e99) (cwV 0 hts (goodV m_ml_X8_198 m_im_X8_fine m_se_X8_fine m_in_X8 m_cd_X8_fine) rfl rfl rfl (by decide +kernel) ⟨Nat.le_of_ble_eq_true rfl, Nat.le_of_ble_eq_true rfl⟩) hN hK hP hD hS hA rfl 0 rfl rfl rfl hl.1 rfl (Nat.le_of_ble_eq_true rfl) dX8_readRule_99 ⟨Nat.zero_le _, Nat.zero_le _⟩ (fun H locs hP hD hS => ?_)
    refine lv_if_ne (tgt := 106) hx hb dX8_readRule_102 (by decide) (fun cz => ?_) (fun cz => ?_)
    · have h := g_f h cz
      refine lv_aload_n hx hb dX8_readRule_106 rfl (lv_at hl 0 rfl) ?_
      refine va_get (D := (dC, dI)) (ci := 8) (v := .int ((x_iM 6))) (C := RX8) (T := TX8) (N := 78) hx hb hts ki8 hown hK hP 0 rfl rfl 6 (by decide) kf175 (fun _ h9 => h9) rfl dX8_readRule_107 ?_
      refine lv_bipush (v := 60) hx hb dX8_readRule_110 (by decide) ?_
      refine lv_icmp_ne (tgt := 119) hx hb dX8_readRule_112 (by decide) (fun cz => ?_) (fun cz => ?_)
      · have h := g_f h cz
        refine lv_iconst (v := 1) hx hb dX8_readRule_119 (by decide) ?_
        exact B120 v2 ((1 : Int32)) x_iM x_aM H locs ls h hP hD hS (lv_sub hl [0, 1] rfl)
      · have h := g_t h cz
        refine lv_iconst (v := 0) hx hb dX8_readRule_115 (by decide) ?_
        refine lv_goto (tgt := 120) hx hb dX8_readRule_116 (by decide) ?_
        exact B120 v2 ((0 : Int32)) x_iM x_aM H locs ls h hP hD hS (lv_sub hl [0, 1] rfl)
    · have h := g_t h cz
      have h' := Option.some.inj h
      rw [← hQQ]
      exact W.vret hx hb hr (fun t ht hW => ⟨⟨(), rfl, trivial, by rw [← hWQ, ← h', ht]; exact hP, va_K.moved hW.alike hK⟩, hS.F ht⟩) hS.2.2 dX8_readRule_105
  have B56 : ∀ (x_iM : Nat → Int32) (H : Heap) (locs : List Loc) (ls : Array Slot), f_M_readRule_56 N iM aM x_iM = some q → va_P (dC, dI) vwCl (zzM ad cy x_iM aM) H → va_D A (zzM ad cy x_iM aM) → va_S A s.heap H locs → lv_has ls 5 [(0, .ref (ad 0))] → W p l e ({ frames := 6, cells := 0, slots := 0, locals := 136 } : Room) s m args below meth c H locs 0 0 QQ (F0 m 56 ls []) := by
    intro x_iM H locs ls h hP hD hS hl
    unfold f_M_readRule_56 at h
    refine lv_aload_n hx hb dX8_readRule_56 rfl (lv_at hl 0 rfl) ?_
    obtain ⟨q57, e57, h⟩ := g_b h
    refine callVis (cc := cX8_readRule) (w1 := zzM ad cy x_iM aM) (As := []) (rest := []) ⟨hx, hb, hml, hown, hts⟩ (c_M_fine l dC dI cy ad H.size x_iM aM q57 e57) (cwV 0 hts (goodV m_ml_X8_198 m_im_X8_fine m_se_X8_fine m_in_X8 m_cd_X8_fine) rfl rfl rfl (by decide +kernel) ⟨Nat.le_of_ble_eq_true rfl, Nat.le_of_ble_eq_true rfl⟩) hN hK hP hD hS hA rfl 0 rfl rfl rfl hl.1 rfl (Nat.le_of_ble_eq_true rfl) dX8_readRule_57 ⟨Nat.zero_le _, Nat.zero_le _⟩ (fun H locs hP hD hS => ?_)
    refine lv_if_ne (tgt := 64) hx hb dX8_readRule_60 (by decide) (fun cz => ?_) (fun cz => ?_)
    · have h := g_f h cz
      refine lv_aload_n hx hb dX8_readRule_64 rfl (lv_at hl 0 rfl) ?_
      obtain ⟨q65, e65, h⟩ := g_b h
      refine callVis (cc := cX8_readRule) (w1 := zzM ad cy q65.2.1 q65.2.2) (As := []) (rest := []) ⟨hx, hb, hml, hown, hts⟩ (c_M_readConcept l dC dI cy ad H.size N x_iM aM q65 e65) (cwV 0 hts (goodV m_ml_X8_308 m_im_X8_readConcept m_se_X8_readConcept m_in_X8 m_cd_X8_readConcept) rfl rfl rfl (by decide +kernel) ⟨Nat.le_of_ble_eq_true rfl, Nat.le_of_ble_eq_true rfl⟩) hN hK hP hD hS hA rfl 0 rfl rfl rfl hl.1 rfl (Nat.le_of_ble_eq_true rfl) dX8_readRule_65 ⟨Nat.zero_le _, Nat.zero_le _⟩ (fun H locs hP hD hS => ?_)
      refine lv_istore_n (lv' := [(2, .int q65.1), (0, .ref (ad 0))]) hx hb dX8_readRule_68 rfl hl (by decide) rfl (fun ls hl => ?_)
      refine lv_aload_n hx hb dX8_readRule_69 rfl (lv_at hl 1 rfl) ?_
      obtain ⟨q70, e70, h⟩ := g_b h
      refine callVis (cc := cX8_readRule) (w1 := zzM ad cy q65.2.1 q65.2.2) (As := []) (rest := []) ⟨hx, hb, hml, hown, hts⟩ (c_M_fine l dC dI cy ad H.size q65.2.1 q65.2.2 q70 e70) (cwV 0 hts (goodV m_ml_X8_198 m_im_X8_fine m_se_X8_fine m_in_X8 m_cd_X8_fine) rfl rfl rfl (by decide +kernel) ⟨Nat.le_of_ble_eq_true rfl, Nat.le_of_ble_eq_true rfl⟩) hN hK hP hD hS hA rfl 0 rfl rfl rfl hl.1 rfl (Nat.le_of_ble_eq_true rfl) dX8_readRule_70 ⟨Nat.zero_le _, Nat.zero_le _⟩ (fun H locs hP hD hS => ?_)
      refine lv_if_eq (tgt := 98) hx hb dX8_readRule_73 (by decide) (fun cz => ?_) (fun cz => ?_)
      · have h := g_t h cz
        exact B98 q65.1 q65.2.1 q65.2.2 H locs ls h hP hD hS (lv_sub hl [1, 0] rfl)
      · have h := g_f h cz
        refine lv_aload_n hx hb dX8_readRule_76 rfl (lv_at hl 1 rfl) ?_
        refine lv_bipush (v := 60) hx hb dX8_readRule_77 (by decide) ?_
        obtain ⟨q79, e79, h⟩ := g_b h
        refine callVis (cc := cX8_readRule) (w1 := zzM ad cy q65.2.1 q65.2.2) (As := [.int ((60 : Int32))]) (rest := []) ⟨hx, hb, hml, hown, hts⟩ (c_M_isSignHere l dC dI cy ad H.size ((60 : Int32)) q65.2.1 q65.2.2 q79 e79) (cwV 1 hts (goodV m_ml_X8_202 m_im_X8_isSignHere m_se_X8_isSignHere m_in_X8 m_cd_X8_isSignHere) rfl rfl rfl (by decide +kernel) ⟨Nat.le_of_ble_eq_true rfl, Nat.le_of_ble_eq_true rfl⟩) hN hK hP hD hS hA rfl 0 rfl rfl rfl hl.1 rfl (Nat.le_of_ble_eq_true rfl) dX8_readRule_79 ⟨Nat.zero_le _, Nat.zero_le _⟩ (fun H locs hP hD hS => ?_)
        refine lv_if_ne (tgt := 98) hx hb dX8_readRule_82 (by decide) (fun cz => ?_) (fun cz => ?_)
        · have h := g_f h cz
          exact B98 q65.1 q65.2.1 q65.2.2 H locs ls h hP hD hS (lv_sub hl [1, 0] rfl)
        · have h := g_t h cz
          refine lv_aload_n hx hb dX8_readRule_85 rfl (lv_at hl 1 rfl) ?_
          refine lv_bipush (v := 61) hx hb dX8_readRule_86 (by decide) ?_
          obtain ⟨q88, e88, h⟩ := g_b h
          refine callVis (cc := cX8_readRule) (w1 := zzM ad cy q65.2.1 q65.2.2) (As := [.int ((61 : Int32))]) (rest := []) ⟨hx, hb, hml, hown, hts⟩ (c_M_isSignHere l dC dI cy ad H.size ((61 : Int32)) q65.2.1 q65.2.2 q88 e88) (cwV 1 hts (goodV m_ml_X8_202 m_im_X8_isSignHere m_se_X8_isSignHere m_in_X8 m_cd_X8_isSignHere) rfl rfl rfl (by decide +kernel) ⟨Nat.le_of_ble_eq_true rfl, Nat.le_of_ble_eq_true rfl⟩) hN hK hP hD hS hA rfl 0 rfl rfl rfl hl.1 rfl (Nat.le_of_ble_eq_true rfl) dX8_readRule_88 ⟨Nat.zero_le _, Nat.zero_le _⟩ (fun H locs hP hD hS => ?_)
          refine lv_if_ne (tgt := 98) hx hb dX8_readRule_91 (by decide) (fun cz => ?_) (fun cz => ?_)
          · have h := g_f h cz
            exact B98 q65.1 q65.2.1 q65.2.2 H locs ls h hP hD hS (lv_sub hl [1, 0] rfl)
          · have h := g_t h cz
            refine lv_aload_n hx hb dX8_readRule_94 rfl (lv_at hl 1 rfl) ?_
            obtain ⟨q95, e95, h⟩ := g_b h
            refine callVvs (cc := cX8_readRule) (w1 := zzM ad cy (us q65.2.1 [(46, q95.1), (47, q95.2)]) q65.2.2) (As := []) (rest := []) ⟨hx, hb, hml, hown, hts⟩ (c_M_misplaced l dC dI cy ad H.size q65.2.1 q65.2.2 q95 e95) (cwV 0 hts (goodV m_ml_X8_208 m_im_X8_misplaced m_se_X8_misplaced m_in_X8 m_cd_X8_misplaced) rfl rfl rfl (by decide +kernel) ⟨Nat.le_of_ble_eq_true rfl, Nat.le_of_ble_eq_true rfl⟩) hN hK hP hD hS hA rfl 0 rfl rfl rfl hl.1 rfl (Nat.le_of_ble_eq_true rfl) dX8_readRule_95 ⟨Nat.zero_le _, Nat.zero_le _⟩ (fun H locs hP hD hS => ?_)
            exact B98 q65.1 ((us q65.2.1 [(46, q95.1), (47, q95.2)])) q65.2.2 H locs ls h hP hD hS (lv_sub hl [1, 0] rfl)
    · have h := g_t h cz
      have h' := Option.some.inj h
      rw [← hQQ]
      exact W.vret hx hb hr (fun t ht hW => ⟨⟨(), rfl, trivial, by rw [← hWQ, ← h', ht]; exact hP, va_K.moved hW.alike hK⟩, hS.F ht⟩) hS.2.2 dX8_readRule_63
  have B38 : ∀  (H : Heap) (locs : List Loc) (ls : Array Slot), f_M_readRule_38 N iM aM = some q → va_P (dC, dI) vwCl (zzM ad cy iM aM) H → va_D A (zzM ad cy iM aM) → va_S A s.heap H locs → lv_has ls 5 [(0, .ref (ad 0))] → W p l e ({ frames := 6, cells := 0, slots := 0, locals := 136 } : Room) s m args below meth c H locs 0 0 QQ (F0 m 38 ls []) := by
    intro H locs ls h hP hD hS hl
    unfold f_M_readRule_38 at h
    refine lv_aload_n hx hb dX8_readRule_38 rfl (lv_at hl 0 rfl) ?_
    refine va_get (D := (dC, dI)) (ci := 8) (v := .int ((iM 41))) (C := RX8) (T := TX8) (N := 78) hx hb hts ki8 hown hK hP 0 rfl rfl 41 (by decide) kf311 (fun _ h9 => h9) rfl dX8_readRule_39 ?_
    refine lv_bipush (v := 12) hx hb dX8_readRule_42 (by decide) ?_
    refine lv_icmp_ne (tgt := 56) hx hb dX8_readRule_44 (by decide) (fun cz => ?_) (fun cz => ?_)
    · have h := g_f h cz
      exact B56 iM H locs ls h hP hD hS (lv_sub hl [0] rfl)
    · have h := g_t h cz
      refine lv_aload_n hx hb dX8_readRule_47 rfl (lv_at hl 0 rfl) ?_
      refine lv_iconst (v := 3) hx hb dX8_readRule_48 (by decide) ?_
      refine lv_aload_n hx hb dX8_readRule_49 rfl (lv_at hl 0 rfl) ?_
      refine va_get (D := (dC, dI)) (ci := 8) (v := .int ((iM 4))) (C := RX8) (T := TX8) (N := 78) hx hb hts ki8 hown hK hP 0 rfl rfl 4 (by decide) kf169 (fun _ h9 => h9) rfl dX8_readRule_50 ?_
      obtain ⟨q53, e53, h⟩ := g_b h
      refine callVvs (cc := cX8_readRule) (w1 := zzM ad cy (us iM [(46, q53.1), (47, q53.2)]) aM) (As := [.int ((3 : Int32)), .int ((iM 4))]) (rest := []) ⟨hx, hb, hml, hown, hts⟩ (c_M_wrong l dC dI cy ad H.size ((3 : Int32)) ((iM 4)) iM aM q53 e53) (cwV 2 hts (goodV m_ml_X8_194 m_im_X8_wrong m_se_X8_wrong m_in_X8 m_cd_X8_wrong) rfl rfl rfl (by decide +kernel) ⟨Nat.le_of_ble_eq_true rfl, Nat.le_of_ble_eq_true rfl⟩) hN hK hP hD hS hA rfl 0 rfl rfl rfl hl.1 rfl (Nat.le_of_ble_eq_true rfl) dX8_readRule_53 ⟨Nat.zero_le _, Nat.zero_le _⟩ (fun H locs hP hD hS => ?_)
      exact B56 ((us iM [(46, q53.1), (47, q53.2)])) H locs ls h hP hD hS (lv_sub hl [0] rfl)
  have B31 : ∀  (H : Heap) (locs : List Loc) (ls : Array Slot), f_M_readRule_31 N iM aM = some q → va_P (dC, dI) vwCl (zzM ad cy iM aM) H → va_D A (zzM ad cy iM aM) → va_S A s.heap H locs → lv_has ls 5 [(0, .ref (ad 0))] → W p l e ({ frames := 6, cells := 0, slots := 0, locals := 136 } : Room) s m args below meth c H locs 0 0 QQ (F0 m 31 ls []) := by
    intro H locs ls h hP hD hS hl
    unfold f_M_readRule_31 at h
    refine lv_aload_n hx hb dX8_readRule_31 rfl (lv_at hl 0 rfl) ?_
    obtain ⟨q32, e32, h⟩ := g_b h
    refine callVvs (cc := cX8_readRule) (w1 := zzM ad cy (us iM [(46, q32.1), (47, q32.2)]) aM) (As := []) (rest := []) ⟨hx, hb, hml, hown, hts⟩ (c_M_misplaced l dC dI cy ad H.size iM aM q32 e32) (cwV 0 hts (goodV m_ml_X8_208 m_im_X8_misplaced m_se_X8_misplaced m_in_X8 m_cd_X8_misplaced) rfl rfl rfl (by decide +kernel) ⟨Nat.le_of_ble_eq_true rfl, Nat.le_of_ble_eq_true rfl⟩) hN hK hP hD hS hA rfl 0 rfl rfl rfl hl.1 rfl (Nat.le_of_ble_eq_true rfl) dX8_readRule_32 ⟨Nat.zero_le _, Nat.zero_le _⟩ (fun H locs hP hD hS => ?_)
    refine lv_goto (tgt := 56) hx hb dX8_readRule_35 (by decide) ?_
    exact B56 ((us iM [(46, q32.1), (47, q32.2)])) H locs ls h hP hD hS (lv_sub hl [0] rfl)
  intro H locs hP hD hS
  unfold f_M_readRule at h
  refine lv_aload_n hx hb dX8_readRule_0 rfl (lv_at hl 0 rfl) ?_
  obtain ⟨q1, e1, h⟩ := g_b h
  refine callVis (cc := cX8_readRule) (w1 := zzM ad cy iM aM) (As := []) (rest := []) ⟨hx, hb, hml, hown, hts⟩ (c_M_kept l dC dI cy ad H.size N iM aM q1 e1) (cwV 0 hts (goodV m_ml_X8_224 m_im_X8_kept m_se_X8_kept m_in_X8 m_cd_X8_kept) rfl rfl rfl (by decide +kernel) ⟨Nat.le_of_ble_eq_true rfl, Nat.le_of_ble_eq_true rfl⟩) hN hK hP hD hS hA rfl 0 rfl rfl rfl hl.1 rfl (Nat.le_of_ble_eq_true rfl) dX8_readRule_1 ⟨Nat.zero_le _, Nat.zero_le _⟩ (fun H locs hP hD hS => ?_)
  refine lv_istore_n (lv' := [(1, .int q1), (0, .ref (ad 0))]) hx hb dX8_readRule_4 rfl hl (by decide) rfl (fun ls hl => ?_)
  refine lv_aload_n hx hb dX8_readRule_5 rfl (lv_at hl 1 rfl) ?_
  refine lv_bipush (v := 40) hx hb dX8_readRule_6 (by decide) ?_
  obtain ⟨q8, e8, h⟩ := g_b h
  refine callVis (cc := cX8_readRule) (w1 := zzM ad cy iM aM) (As := [.int ((40 : Int32))]) (rest := []) ⟨hx, hb, hml, hown, hts⟩ (c_M_isSignHere l dC dI cy ad H.size ((40 : Int32)) iM aM q8 e8) (cwV 1 hts (goodV m_ml_X8_202 m_im_X8_isSignHere m_se_X8_isSignHere m_in_X8 m_cd_X8_isSignHere) rfl rfl rfl (by decide +kernel) ⟨Nat.le_of_ble_eq_true rfl, Nat.le_of_ble_eq_true rfl⟩) hN hK hP hD hS hA rfl 0 rfl rfl rfl hl.1 rfl (Nat.le_of_ble_eq_true rfl) dX8_readRule_8 ⟨Nat.zero_le _, Nat.zero_le _⟩ (fun H locs hP hD hS => ?_)
  refine lv_if_ne (tgt := 38) hx hb dX8_readRule_11 (by decide) (fun cz => ?_) (fun cz => ?_)
  · have h := g_f h cz
    exact B38 H locs ls h hP hD hS (lv_sub hl [1] rfl)
  · have h := g_t h cz
    refine lv_aload_n hx hb dX8_readRule_14 rfl (lv_at hl 1 rfl) ?_
    refine va_get (D := (dC, dI)) (ci := 8) (v := .int ((iM 3))) (C := RX8) (T := TX8) (N := 78) hx hb hts ki8 hown hK hP 0 rfl rfl 3 (by decide) kf178 (fun _ h9 => h9) rfl dX8_readRule_15 ?_
    refine lv_iconst (v := 1) hx hb dX8_readRule_18 (by decide) ?_
    refine lv_icmp_ne (tgt := 31) hx hb dX8_readRule_19 (by decide) (fun cz => ?_) (fun cz => ?_)
    · have h := g_f h cz
      exact B31 H locs ls h hP hD hS (lv_sub hl [1] rfl)
    · have h := g_t h cz
      refine lv_iload_n hx hb dX8_readRule_22 rfl (lv_at hl 0 rfl) ?_
      refine lv_if_lt (tgt := 38) hx hb dX8_readRule_23 (by decide) (fun cz => ?_) (fun cz => ?_)
      · have h := g_t h cz
        exact B38 H locs ls h hP hD hS (lv_sub hl [1] rfl)
      · have h := g_f h cz
        refine lv_iload_n hx hb dX8_readRule_26 rfl (lv_at hl 0 rfl) ?_
        refine lv_iconst (v := 5) hx hb dX8_readRule_27 (by decide) ?_
        refine lv_icmp_ge (tgt := 38) hx hb dX8_readRule_28 (by decide) (fun cz => ?_) (fun cz => ?_)
        · have h := g_t h cz
          exact B38 H locs ls h hP hD hS (lv_sub hl [1] rfl)
        · have h := g_f h cz
          exact B31 H locs ls h hP hD hS (lv_sub hl [1] rfl)
