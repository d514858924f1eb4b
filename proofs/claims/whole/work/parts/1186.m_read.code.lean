def f_M_read_134 (N : Nat) (iM : Nat → Int32) (aM : Nat → Nat → Int32) (k76 : (Nat → Int32) → (Nat → Nat → Int32) → Option (Int32 × (Nat → Int32) × (Nat → Nat → Int32))) (x_iM : Nat → Int32) (x_aM : Nat → Nat → Int32) : Option (Int32 × (Nat → Int32) × (Nat → Nat → Int32)) := (f_M_take N ((59 : Int32)) ((x_iM 1)) ((x_iM 2)) ((x_iM 3)) ((x_iM 4)) ((x_iM 5)) ((x_iM 6)) ((x_iM 46)) ((x_iM 47)) ((x_aM 0))).bind fun q137 => (k76 ((us x_iM [(2, q137.1), (3, q137.2.1), (4, q137.2.2.1), (5, q137.2.2.2.1), (6, q137.2.2.2.2.1), (46, q137.2.2.2.2.2.1), (47, q137.2.2.2.2.2.2)])) x_aM)
def f_M_read_143 (N : Nat) (iM : Nat → Int32) (aM : Nat → Nat → Int32) (x_iM : Nat → Int32) (x_aM : Nat → Nat → Int32) : Option (Int32 × (Nat → Int32) × (Nat → Nat → Int32)) := (f_M_fine ((x_iM 46))).bind fun q149 => (if q149 = 0 then (some ((-(x_iM 46)), (us x_iM [(1, (0 : Int32)), (48, (x_iM 47))]), x_aM)) else ((f_M_become N ((us x_iM [(1, (0 : Int32)), (48, (-1 : Int32))])) x_aM).bind fun q175 => (some ((q175.1 14), q175.1, q175.2))))
def f_M_read_76 (N : Nat) (iM : Nat → Int32) (aM : Nat → Nat → Int32)  : Nat → (Nat → Int32) → (Nat → Nat → Int32) → Option (Int32 × (Nat → Int32) × (Nat → Nat → Int32))
  | 0, _, _ => none
  | n + 1, x_iM, x_aM => (f_M_fine ((x_iM 46))).bind fun q77 => (if q77 = 0 then (f_M_read_143 N iM aM x_iM x_aM) else (if (x_iM 3) = 0 then (f_M_read_143 N iM aM x_iM x_aM) else ((f_M_kept N ((x_iM 3)) ((x_iM 4)) ((x_iM 5)) ((x_aM 0)) ((x_aM 7))).bind fun q91 => (if q91 = 0 then ((f_M_readAsk N x_iM x_aM).bind fun q100 => (f_M_read_134 N iM aM (f_M_read_76 N iM aM n) q100.1 q100.2)) else (if q91 = (1 : Int32) then ((f_M_readUnder N x_iM x_aM).bind fun q112 => (f_M_read_134 N iM aM (f_M_read_76 N iM aM n) q112.1 q112.2)) else (if q91 = (2 : Int32) then ((f_M_readSingle N x_iM x_aM).bind fun q124 => (f_M_read_134 N iM aM (f_M_read_76 N iM aM n) q124.1 q124.2)) else ((f_M_readRule N x_iM x_aM).bind fun q131 => (f_M_read_134 N iM aM (f_M_read_76 N iM aM n) q131.1 q131.2))))))))
def f_M_read_48 (N : Nat) (iM : Nat → Int32) (aM : Nat → Nat → Int32) (x_iM : Nat → Int32) : Nat → Int32 → (Nat → Nat → Int32) → Option (Int32 × (Nat → Int32) × (Nat → Nat → Int32))
  | 0, _, _ => none
  | n + 1, v1, x_aM => if (18 : Int32) ≤ v1 then ((f_M_next N ((x_iM 1)) ((0 : Int32)) ((x_iM 3)) ((x_iM 4)) ((x_iM 5)) ((x_iM 6)) ((x_aM 0))).bind fun q73 => (f_M_read_76 N iM aM N ((us x_iM [(2, q73.1), (3, q73.2.1), (4, q73.2.2.1), (5, q73.2.2.2.1), (6, q73.2.2.2.2)])) x_aM)) else (if v1 < 0 ∨ 18 ≤ v1.toNatClampNeg then none else (f_M_read_48 N iM aM x_iM n ((v1 + (1 : Int32))) ((us x_aM [(30, (upd ((x_aM 30)) v1.toNatClampNeg (vp_nar .boolean ((0 : Int32)))))]))))
def f_M_read (N : Nat) (iM : Nat → Int32) (aM : Nat → Nat → Int32) : Option (Int32 × (Nat → Int32) × (Nat → Nat → Int32)) := f_M_read_48 N iM aM ((us iM [(38, (0 : Int32)), (39, (0 : Int32)), (40, (0 : Int32)), (41, (0 : Int32)), (42, (0 : Int32)), (43, (0 : Int32)), (44, (0 : Int32)), (45, (0 : Int32)), (46, (0 : Int32))])) N ((9 : Int32)) aM
set_option maxHeartbeats 8000000 in
set_option maxRecDepth 100000 in
theorem c_M_read (l : Launch) (dC : Nat → ClassId) (dI : Nat → Nat → Nat) (cy : Nat → ClassId) (ad : Nat → Nat) (sz : Nat) (N : Nat) (iM : Nat → Int32) (aM : Nat → Nat → Int32) (q : Int32 × (Nat → Int32) × (Nat → Nat → Int32)) (h : f_M_read N iM aM = some q) : Met l yX8_read wsX8_read ({ frames := 7, cells := 0, slots := 0, locals := 160 } : Room) (cP (dC, dI) cy [.ref (ad 0)] (zzM ad cy iM aM) sz) (cQi (dC, dI) cy q.1 (zzM ad cy q.2.1 q.2.2) (va_A (zzM ad cy iM aM) sz)) 0 0 (va_A (zzM ad cy iM aM) sz) := by
  refine Met.ofW (cc := cX8_read) (maxL := 2) (ret := (some .int)) (by decide) rfl ?_
  intro p e s m args below meth c s₁ B hml hv
  obtain ⟨hav, hsz, hP, hK, hD0, hN⟩ := hv
  have hx := B.exec
  have hb := B.bytes
  have hr := B.returns
  have hts := atoms_spec (ws := wsX8_read) B.pre
  have hown : s.vm.findClass RX8 = some m.cls := findClass_of_methodNamed B.named
  have hlocks := B.notSynchronized
  subst hsz
  have hD := hD0.self (sz := s.heap.size)
  generalize hAe : va_A (zzM ad cy iM aM) s.heap.size = A at hD ⊢
  have hA : ∀ q : Nat, s.heap.size ≤ q → A q := fun q h => by rw [← hAe]; exact Or.inr h
  have hS : va_S A s.heap s.heap [] := va_S.rf
  generalize hWQ : (zzM ad cy q.2.1 q.2.2) = WQ
  generalize hQQ : MQ below (cQi (dC, dI) cy q.1 WQ A) args s 0 0 A = QQ
  have hl := lv_entry ([.ref (ad 0)] : List Value) (n := 2) (Nat.le_of_ble_eq_true rfl)
  have hfr := lg_entry_eq m ([.ref (ad 0)] : List Value) 2
  rw [← hav] at hfr
  rw [hfr]
  clear hfr hav
  generalize (lg_sl ([.ref (ad 0)] : List Value) ++ List.replicate (2 - (lg_sl ([.ref (ad 0)] : List Value)).length) Slot.unset).toArray = ls at hl ⊢
  have hl : lv_has ls 2 [(0, .ref (ad 0))] := hl
  have kf147 := hts _ (List.mem_cons_of_mem _ m_fl_X8_147)
  have ki8 := (fun w h => List.mem_cons_of_mem _ (i_X8 w h) : ∀ w ∈ u_ws RX8 TX8 78, w ∈ wsX8_read)
  have kf85 := hts _ (List.mem_cons_of_mem _ m_fl_X8_85)
  have kf332 := hts _ (List.mem_cons_of_mem _ m_fl_X8_332)
  have kf191 := hts _ (List.mem_cons_of_mem _ m_fl_X8_191)
  have kf188 := hts _ (List.mem_cons_of_mem _ m_fl_X8_188)
  have kf178 := hts _ (List.mem_cons_of_mem _ m_fl_X8_178)
  have kf166 := hts _ (List.mem_cons_of_mem _ m_fl_X8_166)
  have kf67 := hts _ (List.mem_cons_of_mem _ m_fl_X8_67)
  have kf211 := hts _ (List.mem_cons_of_mem _ m_fl_X8_211)
  have kf245 := hts _ (List.mem_cons_of_mem _ m_fl_X8_245)
  have kf295 := hts _ (List.mem_cons_of_mem _ m_fl_X8_295)
  have kf311 := hts _ (List.mem_cons_of_mem _ m_fl_X8_311)
  have kf305 := hts _ (List.mem_cons_of_mem _ m_fl_X8_305)
  have kf214 := hts _ (List.mem_cons_of_mem _ m_fl_X8_214)
  have kf221 := hts _ (List.mem_cons_of_mem _ m_fl_X8_221)
  have kf234 := hts _ (List.mem_cons_of_mem _ m_fl_X8_234)
  refine (?_ : ∀ (H : Heap) (locs : List Loc), va_P (dC, dI) vwCl (zzM ad cy iM aM) H → va_D A (zzM ad cy iM aM) → va_S A s.heap H locs → W p l e ({ frames := 7, cells := 0, slots := 0, locals := 160 } : Room) s m args below meth c H locs 0 0 QQ (F0 m 0 ls [])) s.heap [] hP hD hS
  clear hP hD hS
  have B134 : ∀ (x_iM : Nat → Int32) (x_aM : Nat → Nat → Int32) (k76 : (Nat → Int32) → (Nat → Nat → Int32) → Option (Int32 × (Nat → Int32) × (Nat → Nat → Int32))) (hk76 : ∀ (x_iM' : Nat → Int32) (x_aM' : Nat → Nat → Int32) (H : Heap) (locs : List Loc) (ls : Array Slot), k76 x_iM' x_aM' = some q → va_P (dC, dI) vwCl (zzM ad cy x_iM' x_aM') H → va_D A (zzM ad cy x_iM' x_aM') → va_S A s.heap H locs → lv_has ls 2 [(0, .ref (ad 0))] → W p l e ({ frames := 7, cells := 0, slots := 0, locals := 160 } : Room) s m args below meth c H locs 0 0 QQ (F0 m 76 ls [])) (H : Heap) (locs : List Loc) (ls : Array Slot), f_M_read_134 N iM aM k76 x_iM x_aM = some q → va_P (dC, dI) vwCl (zzM ad cy x_iM x_aM) H → va_D A (zzM ad cy x_iM x_aM) → va_S A s.heap H locs → lv_has ls 2 [(0, .ref (ad 0))] → W p l e ({ frames := 7, cells := 0, slots := 0, locals := 160 } : Room) s m args below meth c H locs 0 0 QQ (F0 m 134 ls []) := by
    intro x_iM x_aM k76 hk76 H locs ls h hP hD hS hl
    unfold f_M_read_134 at h
    refine lv_aload_n hx hb dX8_read_134 rfl (lv_at hl 0 rfl) ?_
    refine lv_bipush (v := 59) hx hb dX8_read_135 (by decide) ?_
    obtain ⟨q137, e137, h⟩ := g_b h
    refine callVvs (cc := cX8_read) (w1 := zzM ad cy (us x_iM [(2, q137.1), (3, q137.2.1), (4, q137.2.2.1), (5, q137.2.2.2.1), (6, q137.2.2.2.2.1), (46, q137.2.2.2.2.2.1), (47, q137.2.2.2.2.2.2)]) x_aM) (As := [.int ((59 : Int32))]) (rest := []) ⟨hx, hb, hml, hown, hts⟩ (c_M_take l dC dI cy ad H.size N ((59 : Int32)) x_iM x_aM q137 e137) (cwV 1 hts (goodV m_ml_X8_326 m_im_X8_take m_se_X8_take m_in_X8 m_cd_X8_take) rfl rfl rfl (by decide +kernel) ⟨Nat.le_of_ble_eq_true rfl, Nat.le_of_ble_eq_true rfl⟩) hN hK hP hD hS hA rfl 0 rfl rfl rfl hl.1 rfl (Nat.le_of_ble_eq_true rfl) dX8_read_137 ⟨Nat.zero_le _, Nat.zero_le _⟩ (fun H locs hP hD hS => ?_)
    refine lv_goto (tgt := 76) hx hb dX8_read_140 (by decide) ?_
    exact hk76 ((us x_iM [(2, q137.1), (3, q137.2.1), (4, q137.2.2.1), (5, q137.2.2.2.1), (6, q137.2.2.2.2.1), (46, q137.2.2.2.2.2.1), (47, q137.2.2.2.2.2.2)])) x_aM H locs ls h hP hD hS (lv_sub hl [0] rfl)
  have B143 : ∀ (x_iM : Nat → Int32) (x_aM : Nat → Nat → Int32) (H : Heap) (locs : List Loc) (ls : Array Slot), f_M_read_143 N iM aM x_iM x_aM = some q → va_P (dC, dI) vwCl (zzM ad cy x_iM x_aM) H → va_D A (zzM ad cy x_iM x_aM) → va_S A s.heap H locs → lv_has ls 2 [(0, .ref (ad 0))] → W p l e ({ frames := 7, cells := 0, slots := 0, locals := 160 } : Room) s m args below meth c H locs 0 0 QQ (F0 m 143 ls []) := by
    intro x_iM x_aM H locs ls h hP hD hS hl
    unfold f_M_read_143 at h
    refine lv_aload_n hx hb dX8_read_143 rfl (lv_at hl 0 rfl) ?_
    refine lv_iconst (v := 0) hx hb dX8_read_144 (by decide) ?_
    refine va_put (D := (dC, dI)) (ci := 8) (v := .int ((0 : Int32))) (ty := .int) (C := RX8) (T := TX8) (N := 78) hx hb hts ki8 tyX8 tyX8_ok nmX8 hown hK hP hD hS 0 rfl rfl 1 (by decide) kf147 (fun _ h9 => h9) rfl (by decide +kernel) rfl rfl (Nat.le_of_ble_eq_true rfl) dX8_read_145 (fun H locs hP hD hS => ?_)
    have hP : va_P (dC, dI) vwCl (zzM ad cy (us x_iM [(1, (0 : Int32))]) x_aM) H := Eq.mp (congrArg (fun w => va_P (dC, dI) vwCl w H) (sfM_iM1 ad cy x_iM x_aM ((0 : Int32)))) hP
    have hD : va_D A (zzM ad cy (us x_iM [(1, (0 : Int32))]) x_aM) := Eq.mp (congrArg (fun w => va_D A w) (sfM_iM1 ad cy x_iM x_aM ((0 : Int32)))) hD
    refine lv_aload_n hx hb dX8_read_148 rfl (lv_at hl 0 rfl) ?_
    obtain ⟨q149, e149, h⟩ := g_b h
    refine callVis (cc := cX8_read) (w1 := zzM ad cy (us x_iM [(1, (0 : Int32))]) x_aM) (As := []) (rest := []) ⟨hx, hb, hml, hown, hts⟩ (c_M_fine l dC dI cy ad H.size ((us x_iM [(1, (0 : Int32))])) x_aM q149 e149) (cwV 0 hts (goodV m_ml_X8_198 m_im_X8_fine m_se_X8_fine m_in_X8 m_cd_X8_fine) rfl rfl rfl (by decide +kernel) ⟨Nat.le_of_ble_eq_true rfl, Nat.le_of_ble_eq_true rfl⟩) hN hK hP hD hS hA rfl 0 rfl rfl rfl hl.1 rfl (Nat.le_of_ble_eq_true rfl) dX8_read_149 ⟨Nat.zero_le _, Nat.zero_le _⟩ (fun H locs hP hD hS => ?_)
    refine lv_if_ne (tgt := 169) hx hb dX8_read_152 (by decide) (fun cz => ?_) (fun cz => ?_)
    · have h := g_f h cz
      refine lv_aload_n hx hb dX8_read_169 rfl (lv_at hl 0 rfl) ?_
      refine lv_iconst (v := (-1)) hx hb dX8_read_170 (by decide) ?_
      refine va_put (D := (dC, dI)) (ci := 8) (v := .int ((-1 : Int32))) (ty := .int) (C := RX8) (T := TX8) (N := 78) hx hb hts ki8 tyX8 tyX8_ok nmX8 hown hK hP hD hS 0 rfl rfl 48 (by decide) kf85 (fun _ h9 => h9) rfl (by decide +kernel) rfl rfl (Nat.le_of_ble_eq_true rfl) dX8_read_171 (fun H locs hP hD hS => ?_)
      have hP : va_P (dC, dI) vwCl (zzM ad cy (us x_iM [(1, (0 : Int32)), (48, (-1 : Int32))]) x_aM) H := Eq.mp (congrArg (fun w => va_P (dC, dI) vwCl w H) (stM_iM48 ad cy x_iM x_aM [(1, (0 : Int32))] ((-1 : Int32)))) hP
      have hD : va_D A (zzM ad cy (us x_iM [(1, (0 : Int32)), (48, (-1 : Int32))]) x_aM) := Eq.mp (congrArg (fun w => va_D A w) (stM_iM48 ad cy x_iM x_aM [(1, (0 : Int32))] ((-1 : Int32)))) hD
      refine lv_aload_n hx hb dX8_read_174 rfl (lv_at hl 0 rfl) ?_
      obtain ⟨q175, e175, h⟩ := g_b h
      refine callVvs (cc := cX8_read) (w1 := zzM ad cy q175.1 q175.2) (As := []) (rest := []) ⟨hx, hb, hml, hown, hts⟩ (c_M_become l dC dI cy ad H.size N ((us x_iM [(1, (0 : Int32)), (48, (-1 : Int32))])) x_aM q175 e175) (cwV 0 hts (goodV m_ml_X8_329 m_im_X8_become m_se_X8_become m_in_X8 m_cd_X8_become) rfl rfl rfl (by decide +kernel) ⟨Nat.le_of_ble_eq_true rfl, Nat.le_of_ble_eq_true rfl⟩) hN hK hP hD hS hA rfl 0 rfl rfl rfl hl.1 rfl (Nat.le_of_ble_eq_true rfl) dX8_read_175 ⟨Nat.zero_le _, Nat.zero_le _⟩ (fun H locs hP hD hS => ?_)
      refine lv_aload_n hx hb dX8_read_178 rfl (lv_at hl 0 rfl) ?_
      refine va_get (D := (dC, dI)) (ci := 8) (v := .int ((q175.1 14))) (C := RX8) (T := TX8) (N := 78) hx hb hts ki8 hown hK hP 0 rfl rfl 14 (by decide) kf332 (fun _ h9 => h9) rfl dX8_read_179 ?_
      have h' := Option.some.inj h
      rw [← hQQ]
      exact W.iret (v := (q175.1 14)) hx hb hr (fun t ht hW => ⟨⟨(q175.1 14), (), rfl, by rw [← h'], by rw [← hWQ, ← h', ht]; exact hP, va_K.moved hW.alike hK⟩, hS.F ht⟩) hS.2.2 dX8_read_182
    · have h := g_t h cz
      refine lv_aload_n hx hb dX8_read_155 rfl (lv_at hl 0 rfl) ?_
      refine lv_aload_n hx hb dX8_read_156 rfl (lv_at hl 0 rfl) ?_
      refine va_get (D := (dC, dI)) (ci := 8) (v := .int ((x_iM 47))) (C := RX8) (T := TX8) (N := 78) hx hb hts ki8 hown hK hP 0 rfl rfl 47 (by decide) kf191 (fun _ h9 => h9) rfl dX8_read_157 ?_
      refine va_put (D := (dC, dI)) (ci := 8) (v := .int ((x_iM 47))) (ty := .int) (C := RX8) (T := TX8) (N := 78) hx hb hts ki8 tyX8 tyX8_ok nmX8 hown hK hP hD hS 0 rfl rfl 48 (by decide) kf85 (fun _ h9 => h9) rfl (by decide +kernel) rfl rfl (Nat.le_of_ble_eq_true rfl) dX8_read_160 (fun H locs hP hD hS => ?_)
      have hP : va_P (dC, dI) vwCl (zzM ad cy (us x_iM [(1, (0 : Int32)), (48, (x_iM 47))]) x_aM) H := Eq.mp (congrArg (fun w => va_P (dC, dI) vwCl w H) (stM_iM48 ad cy x_iM x_aM [(1, (0 : Int32))] ((x_iM 47)))) hP
      have hD : va_D A (zzM ad cy (us x_iM [(1, (0 : Int32)), (48, (x_iM 47))]) x_aM) := Eq.mp (congrArg (fun w => va_D A w) (stM_iM48 ad cy x_iM x_aM [(1, (0 : Int32))] ((x_iM 47)))) hD
      refine lv_aload_n hx hb dX8_read_163 rfl (lv_at hl 0 rfl) ?_
      refine va_get (D := (dC, dI)) (ci := 8) (v := .int ((x_iM 46))) (C := RX8) (T := TX8) (N := 78) hx hb hts ki8 hown hK hP 0 rfl rfl 46 (by decide) kf188 (fun _ h9 => h9) rfl dX8_read_164 ?_
      refine lv_ineg hx hb dX8_read_167 ?_
      have h' := Option.some.inj h
      rw [← hQQ]
      exact W.iret (v := (-(x_iM 46))) hx hb hr (fun t ht hW => ⟨⟨(-(x_iM 46)), (), rfl, by rw [← h'], by rw [← hWQ, ← h', ht]; exact hP, va_K.moved hW.alike hK⟩, hS.F ht⟩) hS.2.2 dX8_read_168
  have B76 : ∀ (n : Nat) (x_iM : Nat → Int32) (x_aM : Nat → Nat → Int32) (H : Heap) (locs : List Loc) (ls : Array Slot), f_M_read_76 N iM aM n x_iM x_aM = some q → va_P (dC, dI) vwCl (zzM ad cy x_iM x_aM) H → va_D A (zzM ad cy x_iM x_aM) → va_S A s.heap H locs → lv_has ls 2 [(0, .ref (ad 0))] → W p l e ({ frames := 7, cells := 0, slots := 0, locals := 160 } : Room) s m args below meth c H locs 0 0 QQ (F0 m 76 ls []) := by
    intro n
    induction n with
    | zero =>
      intro x_iM x_aM H locs ls h hP hD hS hl
      rw [f_M_read_76] at h
      cases h
    | succ n ih =>
      intro x_iM x_aM H locs ls h hP hD hS hl
      rw [f_M_read_76] at h
      refine lv_aload_n hx hb dX8_read_76 rfl (lv_at hl 0 rfl) ?_
      obtain ⟨q77, e77, h⟩ := g_b h
      refine callVis (cc := cX8_read) (w1 := zzM ad cy x_iM x_aM) (As := []) (rest := []) ⟨hx, hb, hml, hown, hts⟩ (c_M_fine l dC dI cy ad H.size x_iM x_aM q77 e77) (cwV 0 hts (goodV m_ml_X8_198 m_im_X8_fine m_se_X8_fine m_in_X8 m_cd_X8_fine) rfl rfl rfl (by decide +kernel) ⟨Nat.le_of_ble_eq_true rfl, Nat.le_of_ble_eq_true rfl⟩) hN hK hP hD hS hA rfl 0 rfl rfl rfl hl.1 rfl (Nat.le_of_ble_eq_true rfl) dX8_read_77 ⟨Nat.zero_le _, Nat.zero_le _⟩ (fun H locs hP hD hS => ?_)
      refine lv_if_eq (tgt := 143) hx hb dX8_read_80 (by decide) (fun cz => ?_) (fun cz => ?_)
      · have h := g_t h cz
        exact B143 x_iM x_aM H locs ls h hP hD hS (lv_sub hl [0] rfl)
      · have h := g_f h cz
        refine lv_aload_n hx hb dX8_read_83 rfl (lv_at hl 0 rfl) ?_
        refine va_get (D := (dC, dI)) (ci := 8) (v := .int ((x_iM 3))) (C := RX8) (T := TX8) (N := 78) hx hb hts ki8 hown hK hP 0 rfl rfl 3 (by decide) kf178 (fun _ h9 => h9) rfl dX8_read_84 ?_
        refine lv_if_eq (tgt := 143) hx hb dX8_read_87 (by decide) (fun cz => ?_) (fun cz => ?_)
        · have h := g_t h cz
          exact B143 x_iM x_aM H locs ls h hP hD hS (lv_sub hl [0] rfl)
        · have h := g_f h cz
          refine lv_aload_n hx hb dX8_read_90 rfl (lv_at hl 0 rfl) ?_
          obtain ⟨q91, e91, h⟩ := g_b h
          refine callVis (cc := cX8_read) (w1 := zzM ad cy x_iM x_aM) (As := []) (rest := []) ⟨hx, hb, hml, hown, hts⟩ (c_M_kept l dC dI cy ad H.size N x_iM x_aM q91 e91) (cwV 0 hts (goodV m_ml_X8_224 m_im_X8_kept m_se_X8_kept m_in_X8 m_cd_X8_kept) rfl rfl rfl (by decide +kernel) ⟨Nat.le_of_ble_eq_true rfl, Nat.le_of_ble_eq_true rfl⟩) hN hK hP hD hS hA rfl 0 rfl rfl rfl hl.1 rfl (Nat.le_of_ble_eq_true rfl) dX8_read_91 ⟨Nat.zero_le _, Nat.zero_le _⟩ (fun H locs hP hD hS => ?_)
          refine lv_istore_n (lv' := [(1, .int q91), (0, .ref (ad 0))]) hx hb dX8_read_94 rfl hl (by decide) rfl (fun ls hl => ?_)
          refine lv_iload_n hx hb dX8_read_95 rfl (lv_at hl 0 rfl) ?_
          refine lv_if_ne (tgt := 106) hx hb dX8_read_96 (by decide) (fun cz => ?_) (fun cz => ?_)
          · have h := g_f h cz
            refine lv_iload_n hx hb dX8_read_106 rfl (lv_at hl 0 rfl) ?_
            refine lv_iconst (v := 1) hx hb dX8_read_107 (by decide) ?_
            refine lv_icmp_ne (tgt := 118) hx hb dX8_read_108 (by decide) (fun cz => ?_) (fun cz => ?_)
            · have h := g_f h cz
              refine lv_iload_n hx hb dX8_read_118 rfl (lv_at hl 0 rfl) ?_
              refine lv_iconst (v := 2) hx hb dX8_read_119 (by decide) ?_
              refine lv_icmp_ne (tgt := 130) hx hb dX8_read_120 (by decide) (fun cz => ?_) (fun cz => ?_)
              · have h := g_f h cz
                refine lv_aload_n hx hb dX8_read_130 rfl (lv_at hl 1 rfl) ?_
                obtain ⟨q131, e131, h⟩ := g_b h
                refine callVvs (cc := cX8_read) (w1 := zzM ad cy q131.1 q131.2) (As := []) (rest := []) ⟨hx, hb, hml, hown, hts⟩ (c_M_readRule l dC dI cy ad H.size N x_iM x_aM q131 e131) (cwV 0 hts (goodV m_ml_X8_323 m_im_X8_readRule m_se_X8_readRule m_in_X8 m_cd_X8_readRule) rfl rfl rfl (by decide +kernel) ⟨Nat.le_of_ble_eq_true rfl, Nat.le_of_ble_eq_true rfl⟩) hN hK hP hD hS hA rfl 0 rfl rfl rfl hl.1 rfl (Nat.le_of_ble_eq_true rfl) dX8_read_131 ⟨Nat.zero_le _, Nat.zero_le _⟩ (fun H locs hP hD hS => ?_)
                exact B134 q131.1 q131.2 (f_M_read_76 N iM aM n) ih H locs ls h hP hD hS (lv_sub hl [1] rfl)
              · have h := g_t h cz
                refine lv_aload_n hx hb dX8_read_123 rfl (lv_at hl 1 rfl) ?_
                obtain ⟨q124, e124, h⟩ := g_b h
                refine callVvs (cc := cX8_read) (w1 := zzM ad cy q124.1 q124.2) (As := []) (rest := []) ⟨hx, hb, hml, hown, hts⟩ (c_M_readSingle l dC dI cy ad H.size N x_iM x_aM q124 e124) (cwV 0 hts (goodV m_ml_X8_320 m_im_X8_readSingle m_se_X8_readSingle m_in_X8 m_cd_X8_readSingle) rfl rfl rfl (by decide +kernel) ⟨Nat.le_of_ble_eq_true rfl, Nat.le_of_ble_eq_true rfl⟩) hN hK hP hD hS hA rfl 0 rfl rfl rfl hl.1 rfl (Nat.le_of_ble_eq_true rfl) dX8_read_124 ⟨Nat.zero_le _, Nat.zero_le _⟩ (fun H locs hP hD hS => ?_)
                refine lv_goto (tgt := 134) hx hb dX8_read_127 (by decide) ?_
                exact B134 q124.1 q124.2 (f_M_read_76 N iM aM n) ih H locs ls h hP hD hS (lv_sub hl [1] rfl)
            · have h := g_t h cz
              refine lv_aload_n hx hb dX8_read_111 rfl (lv_at hl 1 rfl) ?_
              obtain ⟨q112, e112, h⟩ := g_b h
              refine callVvs (cc := cX8_read) (w1 := zzM ad cy q112.1 q112.2) (As := []) (rest := []) ⟨hx, hb, hml, hown, hts⟩ (c_M_readUnder l dC dI cy ad H.size N x_iM x_aM q112 e112) (cwV 0 hts (goodV m_ml_X8_317 m_im_X8_readUnder m_se_X8_readUnder m_in_X8 m_cd_X8_readUnder) rfl rfl rfl (by decide +kernel) ⟨Nat.le_of_ble_eq_true rfl, Nat.le_of_ble_eq_true rfl⟩) hN hK hP hD hS hA rfl 0 rfl rfl rfl hl.1 rfl (Nat.le_of_ble_eq_true rfl) dX8_read_112 ⟨Nat.zero_le _, Nat.zero_le _⟩ (fun H locs hP hD hS => ?_)
              refine lv_goto (tgt := 134) hx hb dX8_read_115 (by decide) ?_
              exact B134 q112.1 q112.2 (f_M_read_76 N iM aM n) ih H locs ls h hP hD hS (lv_sub hl [1] rfl)
          · have h := g_t h cz
            refine lv_aload_n hx hb dX8_read_99 rfl (lv_at hl 1 rfl) ?_
            obtain ⟨q100, e100, h⟩ := g_b h
            refine callVvs (cc := cX8_read) (w1 := zzM ad cy q100.1 q100.2) (As := []) (rest := []) ⟨hx, hb, hml, hown, hts⟩ (c_M_readAsk l dC dI cy ad H.size N x_iM x_aM q100 e100) (cwV 0 hts (goodV m_ml_X8_314 m_im_X8_readAsk m_se_X8_readAsk m_in_X8 m_cd_X8_readAsk) rfl rfl rfl (by decide +kernel) ⟨Nat.le_of_ble_eq_true rfl, Nat.le_of_ble_eq_true rfl⟩) hN hK hP hD hS hA rfl 0 rfl rfl rfl hl.1 rfl (Nat.le_of_ble_eq_true rfl) dX8_read_100 ⟨Nat.zero_le _, Nat.zero_le _⟩ (fun H locs hP hD hS => ?_)
            refine lv_goto (tgt := 134) hx hb dX8_read_103 (by decide) ?_
            exact B134 q100.1 q100.2 (f_M_read_76 N iM aM n) ih H locs ls h hP hD hS (lv_sub hl [1] rfl)
  have B48 : ∀ (n : Nat) (x_iM : Nat → Int32) (v1 : Int32) (x_aM : Nat → Nat → Int32) (H : Heap) (locs : List Loc) (ls : Array Slot), f_M_read_48 N iM aM x_iM n v1 x_aM = some q → va_P (dC, dI) vwCl (zzM ad cy x_iM x_aM) H → va_D A (zzM ad cy x_iM x_aM) → va_S A s.heap H locs → lv_has ls 2 [(0, .ref (ad 0)), (1, .int v1)] → W p l e ({ frames := 7, cells := 0, slots := 0, locals := 160 } : Room) s m args below meth c H locs 0 0 QQ (F0 m 48 ls []) := by
    intro n
    induction n with
    | zero =>
      intro x_iM v1 x_aM H locs ls h hP hD hS hl
      rw [f_M_read_48] at h
      cases h
    | succ n ih =>
      intro x_iM v1 x_aM H locs ls h hP hD hS hl
      rw [f_M_read_48] at h
      refine lv_iload_n hx hb dX8_read_48 rfl (lv_at hl 1 rfl) ?_
      refine lv_bipush (v := 18) hx hb dX8_read_49 (by decide) ?_
      refine lv_icmp_ge (tgt := 67) hx hb dX8_read_51 (by decide) (fun cz => ?_) (fun cz => ?_)
      · have h := g_t h cz
        refine lv_aload_n hx hb dX8_read_67 rfl (lv_at hl 0 rfl) ?_
        refine lv_iconst (v := 0) hx hb dX8_read_68 (by decide) ?_
        refine va_put (D := (dC, dI)) (ci := 8) (v := .int ((0 : Int32))) (ty := .int) (C := RX8) (T := TX8) (N := 78) hx hb hts ki8 tyX8 tyX8_ok nmX8 hown hK hP hD hS 0 rfl rfl 2 (by decide) kf166 (fun _ h9 => h9) rfl (by decide +kernel) rfl rfl (Nat.le_of_ble_eq_true rfl) dX8_read_69 (fun H locs hP hD hS => ?_)
        have hP : va_P (dC, dI) vwCl (zzM ad cy (us x_iM [(2, (0 : Int32))]) x_aM) H := Eq.mp (congrArg (fun w => va_P (dC, dI) vwCl w H) (sfM_iM2 ad cy x_iM x_aM ((0 : Int32)))) hP
        have hD : va_D A (zzM ad cy (us x_iM [(2, (0 : Int32))]) x_aM) := Eq.mp (congrArg (fun w => va_D A w) (sfM_iM2 ad cy x_iM x_aM ((0 : Int32)))) hD
        refine lv_aload_n hx hb dX8_read_72 rfl (lv_at hl 0 rfl) ?_
        obtain ⟨q73, e73, h⟩ := g_b h
        refine callVvs (cc := cX8_read) (w1 := zzM ad cy (us x_iM [(2, q73.1), (3, q73.2.1), (4, q73.2.2.1), (5, q73.2.2.2.1), (6, q73.2.2.2.2)]) x_aM) (As := []) (rest := []) ⟨hx, hb, hml, hown, hts⟩ (c_M_next l dC dI cy ad H.size N ((us x_iM [(2, (0 : Int32))])) x_aM q73 e73) (cwV 0 hts (goodV m_ml_X8_205 m_im_X8_next m_se_X8_next m_in_X8 m_cd_X8_next) rfl rfl rfl (by decide +kernel) ⟨Nat.le_of_ble_eq_true rfl, Nat.le_of_ble_eq_true rfl⟩) hN hK hP hD hS hA rfl 0 rfl rfl rfl hl.1 rfl (Nat.le_of_ble_eq_true rfl) dX8_read_73 ⟨Nat.zero_le _, Nat.zero_le _⟩ (fun H locs hP hD hS => ?_)
        exact B76 N ((us x_iM [(2, q73.1), (3, q73.2.1), (4, q73.2.2.1), (5, q73.2.2.2.1), (6, q73.2.2.2.2)])) x_aM H locs ls h hP hD hS (lv_sub hl [0] rfl)
      · have h := g_f h cz
        refine lv_aload_n hx hb dX8_read_54 rfl (lv_at hl 0 rfl) ?_
        refine va_get (D := (dC, dI)) (ci := 8) (v := .ref (ad 19)) (C := RX8) (T := TX8) (N := 78) hx hb hts ki8 hown hK hP 0 rfl rfl 30 (by decide) kf67 (fun _ h9 => h9) rfl dX8_read_55 ?_
        refine lv_iload_n hx hb dX8_read_58 rfl (lv_at hl 1 rfl) ?_
        refine lv_iconst (v := 0) hx hb dX8_read_59 (by decide) ?_
        obtain ⟨g_117, h⟩ := g_n h
        refine va_zast (f := (x_aM 30)) hx hb hK hP hD hS 19 4 rfl rfl g_117 dX8_read_60 (fun H locs hP hD hS => ?_)
        have hP : va_P (dC, dI) vwCl (zzM ad cy x_iM (us x_aM [(30, (upd ((x_aM 30)) v1.toNatClampNeg (vp_nar .boolean ((0 : Int32)))))])) H := Eq.mp (congrArg (fun w => va_P (dC, dI) vwCl w H) (sfM_aM30 ad cy x_iM x_aM ((upd ((x_aM 30)) v1.toNatClampNeg (vp_nar .boolean ((0 : Int32))))))) hP
        have hD : va_D A (zzM ad cy x_iM (us x_aM [(30, (upd ((x_aM 30)) v1.toNatClampNeg (vp_nar .boolean ((0 : Int32)))))])) := Eq.mp (congrArg (fun w => va_D A w) (sfM_aM30 ad cy x_iM x_aM ((upd ((x_aM 30)) v1.toNatClampNeg (vp_nar .boolean ((0 : Int32))))))) hD
        refine lv_iinc (v := (v1 + (1 : Int32))) (lv' := [(1, .int ((v1 + (1 : Int32)))), (0, .ref (ad 0))]) hx hb dX8_read_61 hl (k := 1) rfl rfl (by decide) rfl (fun ls hl => ?_)
        refine lv_goto (tgt := 48) hx hb dX8_read_64 (by decide) ?_
        exact ih x_iM ((v1 + (1 : Int32))) ((us x_aM [(30, (upd ((x_aM 30)) v1.toNatClampNeg (vp_nar .boolean ((0 : Int32)))))])) H locs ls h hP hD hS (lv_sub hl [1, 0] rfl)
  intro H locs hP hD hS
  unfold f_M_read at h
  refine lv_aload_n hx hb dX8_read_0 rfl (lv_at hl 0 rfl) ?_
  refine lv_iconst (v := 0) hx hb dX8_read_1 (by decide) ?_
  refine va_put (D := (dC, dI)) (ci := 8) (v := .int ((0 : Int32))) (ty := .int) (C := RX8) (T := TX8) (N := 78) hx hb hts ki8 tyX8 tyX8_ok nmX8 hown hK hP hD hS 0 rfl rfl 46 (by decide) kf188 (fun _ h9 => h9) rfl (by decide +kernel) rfl rfl (Nat.le_of_ble_eq_true rfl) dX8_read_2 (fun H locs hP hD hS => ?_)
  have hP : va_P (dC, dI) vwCl (zzM ad cy (us iM [(46, (0 : Int32))]) aM) H := Eq.mp (congrArg (fun w => va_P (dC, dI) vwCl w H) (sfM_iM46 ad cy iM aM ((0 : Int32)))) hP
  have hD : va_D A (zzM ad cy (us iM [(46, (0 : Int32))]) aM) := Eq.mp (congrArg (fun w => va_D A w) (sfM_iM46 ad cy iM aM ((0 : Int32)))) hD
  refine lv_aload_n hx hb dX8_read_5 rfl (lv_at hl 0 rfl) ?_
  refine lv_iconst (v := 0) hx hb dX8_read_6 (by decide) ?_
  refine va_put (D := (dC, dI)) (ci := 8) (v := .int ((0 : Int32))) (ty := .int) (C := RX8) (T := TX8) (N := 78) hx hb hts ki8 tyX8 tyX8_ok nmX8 hown hK hP hD hS 0 rfl rfl 38 (by decide) kf211 (fun _ h9 => h9) rfl (by decide +kernel) rfl rfl (Nat.le_of_ble_eq_true rfl) dX8_read_7 (fun H locs hP hD hS => ?_)
  have hP : va_P (dC, dI) vwCl (zzM ad cy (us iM [(38, (0 : Int32)), (46, (0 : Int32))]) aM) H := Eq.mp (congrArg (fun w => va_P (dC, dI) vwCl w H) (stM_iM38 ad cy iM aM [(46, (0 : Int32))] ((0 : Int32)))) hP
  have hD : va_D A (zzM ad cy (us iM [(38, (0 : Int32)), (46, (0 : Int32))]) aM) := Eq.mp (congrArg (fun w => va_D A w) (stM_iM38 ad cy iM aM [(46, (0 : Int32))] ((0 : Int32)))) hD
  refine lv_aload_n hx hb dX8_read_10 rfl (lv_at hl 0 rfl) ?_
  refine lv_iconst (v := 0) hx hb dX8_read_11 (by decide) ?_
  refine va_put (D := (dC, dI)) (ci := 8) (v := .int ((0 : Int32))) (ty := .int) (C := RX8) (T := TX8) (N := 78) hx hb hts ki8 tyX8 tyX8_ok nmX8 hown hK hP hD hS 0 rfl rfl 39 (by decide) kf245 (fun _ h9 => h9) rfl (by decide +kernel) rfl rfl (Nat.le_of_ble_eq_true rfl) dX8_read_12 (fun H locs hP hD hS => ?_)
  have hP : va_P (dC, dI) vwCl (zzM ad cy (us iM [(38, (0 : Int32)), (39, (0 : Int32)), (46, (0 : Int32))]) aM) H := Eq.mp (congrArg (fun w => va_P (dC, dI) vwCl w H) (stM_iM39 ad cy iM aM [(38, (0 : Int32)), (46, (0 : Int32))] ((0 : Int32)))) hP
  have hD : va_D A (zzM ad cy (us iM [(38, (0 : Int32)), (39, (0 : Int32)), (46, (0 : Int32))]) aM) := Eq.mp (congrArg (fun w => va_D A w) (stM_iM39 ad cy iM aM [(38, (0 : Int32)), (46, (0 : Int32))] ((0 : Int32)))) hD
  refine lv_aload_n hx hb dX8_read_15 rfl (lv_at hl 0 rfl) ?_
  refine lv_iconst (v := 0) hx hb dX8_read_16 (by decide) ?_
  refine va_put (D := (dC, dI)) (ci := 8) (v := .int ((0 : Int32))) (ty := .int) (C := RX8) (T := TX8) (N := 78) hx hb hts ki8 tyX8 tyX8_ok nmX8 hown hK hP hD hS 0 rfl rfl 40 (by decide) kf295 (fun _ h9 => h9) rfl (by decide +kernel) rfl rfl (Nat.le_of_ble_eq_true rfl) dX8_read_17 (fun H locs hP hD hS => ?_)
  have hP : va_P (dC, dI) vwCl (zzM ad cy (us iM [(38, (0 : Int32)), (39, (0 : Int32)), (40, (0 : Int32)), (46, (0 : Int32))]) aM) H := Eq.mp (congrArg (fun w => va_P (dC, dI) vwCl w H) (stM_iM40 ad cy iM aM [(38, (0 : Int32)), (39, (0 : Int32)), (46, (0 : Int32))] ((0 : Int32)))) hP
  have hD : va_D A (zzM ad cy (us iM [(38, (0 : Int32)), (39, (0 : Int32)), (40, (0 : Int32)), (46, (0 : Int32))]) aM) := Eq.mp (congrArg (fun w => va_D A w) (stM_iM40 ad cy iM aM [(38, (0 : Int32)), (39, (0 : Int32)), (46, (0 : Int32))] ((0 : Int32)))) hD
  refine lv_aload_n hx hb dX8_read_20 rfl (lv_at hl 0 rfl) ?_
  refine lv_iconst (v := 0) hx hb dX8_read_21 (by decide) ?_
  refine va_put (D := (dC, dI)) (ci := 8) (v := .int ((0 : Int32))) (ty := .int) (C := RX8) (T := TX8) (N := 78) hx hb hts ki8 tyX8 tyX8_ok nmX8 hown hK hP hD hS 0 rfl rfl 41 (by decide) kf311 (fun _ h9 => h9) rfl (by decide +kernel) rfl rfl (Nat.le_of_ble_eq_true rfl) dX8_read_22 (fun H locs hP hD hS => ?_)
  have hP : va_P (dC, dI) vwCl (zzM ad cy (us iM [(38, (0 : Int32)), (39, (0 : Int32)), (40, (0 : Int32)), (41, (0 : Int32)), (46, (0 : Int32))]) aM) H := Eq.mp (congrArg (fun w => va_P (dC, dI) vwCl w H) (stM_iM41 ad cy iM aM [(38, (0 : Int32)), (39, (0 : Int32)), (40, (0 : Int32)), (46, (0 : Int32))] ((0 : Int32)))) hP
  have hD : va_D A (zzM ad cy (us iM [(38, (0 : Int32)), (39, (0 : Int32)), (40, (0 : Int32)), (41, (0 : Int32)), (46, (0 : Int32))]) aM) := Eq.mp (congrArg (fun w => va_D A w) (stM_iM41 ad cy iM aM [(38, (0 : Int32)), (39, (0 : Int32)), (40, (0 : Int32)), (46, (0 : Int32))] ((0 : Int32)))) hD
  refine lv_aload_n hx hb dX8_read_25 rfl (lv_at hl 0 rfl) ?_
  refine lv_iconst (v := 0) hx hb dX8_read_26 (by decide) ?_
  refine va_put (D := (dC, dI)) (ci := 8) (v := .int ((0 : Int32))) (ty := .int) (C := RX8) (T := TX8) (N := 78) hx hb hts ki8 tyX8 tyX8_ok nmX8 hown hK hP hD hS 0 rfl rfl 42 (by decide) kf305 (fun _ h9 => h9) rfl (by decide +kernel) rfl rfl (Nat.le_of_ble_eq_true rfl) dX8_read_27 (fun H locs hP hD hS => ?_)
  have hP : va_P (dC, dI) vwCl (zzM ad cy (us iM [(38, (0 : Int32)), (39, (0 : Int32)), (40, (0 : Int32)), (41, (0 : Int32)), (42, (0 : Int32)), (46, (0 : Int32))]) aM) H := Eq.mp (congrArg (fun w => va_P (dC, dI) vwCl w H) (stM_iM42 ad cy iM aM [(38, (0 : Int32)), (39, (0 : Int32)), (40, (0 : Int32)), (41, (0 : Int32)), (46, (0 : Int32))] ((0 : Int32)))) hP
  have hD : va_D A (zzM ad cy (us iM [(38, (0 : Int32)), (39, (0 : Int32)), (40, (0 : Int32)), (41, (0 : Int32)), (42, (0 : Int32)), (46, (0 : Int32))]) aM) := Eq.mp (congrArg (fun w => va_D A w) (stM_iM42 ad cy iM aM [(38, (0 : Int32)), (39, (0 : Int32)), (40, (0 : Int32)), (41, (0 : Int32)), (46, (0 : Int32))] ((0 : Int32)))) hD
  refine lv_aload_n hx hb dX8_read_30 rfl (lv_at hl 0 rfl) ?_
  refine lv_iconst (v := 0) hx hb dX8_read_31 (by decide) ?_
  refine va_put (D := (dC, dI)) (ci := 8) (v := .int ((0 : Int32))) (ty := .int) (C := RX8) (T := TX8) (N := 78) hx hb hts ki8 tyX8 tyX8_ok nmX8 hown hK hP hD hS 0 rfl rfl 43 (by decide) kf214 (fun _ h9 => h9) rfl (by decide +kernel) rfl rfl (Nat.le_of_ble_eq_true rfl) dX8_read_32 (fun H locs hP hD hS => ?_)
  have hP : va_P (dC, dI) vwCl (zzM ad cy (us iM [(38, (0 : Int32)), (39, (0 : Int32)), (40, (0 : Int32)), (41, (0 : Int32)), (42, (0 : Int32)), (43, (0 : Int32)), (46, (0 : Int32))]) aM) H := Eq.mp (congrArg (fun w => va_P (dC, dI) vwCl w H) (stM_iM43 ad cy iM aM [(38, (0 : Int32)), (39, (0 : Int32)), (40, (0 : Int32)), (41, (0 : Int32)), (42, (0 : Int32)), (46, (0 : Int32))] ((0 : Int32)))) hP
  have hD : va_D A (zzM ad cy (us iM [(38, (0 : Int32)), (39, (0 : Int32)), (40, (0 : Int32)), (41, (0 : Int32)), (42, (0 : Int32)), (43, (0 : Int32)), (46, (0 : Int32))]) aM) := Eq.mp (congrArg (fun w => va_D A w) (stM_iM43 ad cy iM aM [(38, (0 : Int32)), (39, (0 : Int32)), (40, (0 : Int32)), (41, (0 : Int32)), (42, (0 : Int32)), (46, (0 : Int32))] ((0 : Int32)))) hD
  refine lv_aload_n hx hb dX8_read_35 rfl (lv_at hl 0 rfl) ?_
  refine lv_iconst (v := 0) hx hb dX8_read_36 (by decide) ?_
  refine va_put (D := (dC, dI)) (ci := 8) (v := .int ((0 : Int32))) (ty := .int) (C := RX8) (T := TX8) (N := 78) hx hb hts ki8 tyX8 tyX8_ok nmX8 hown hK hP hD hS 0 rfl rfl 44 (by decide) kf221 (fun _ h9 => h9) rfl (by decide +kernel) rfl rfl (Nat.le_of_ble_eq_true rfl) dX8_read_37 (fun H locs hP hD hS => ?_)
  have hP : va_P (dC, dI) vwCl (zzM ad cy (us iM [(38, (0 : Int32)), (39, (0 : Int32)), (40, (0 : Int32)), (41, (0 : Int32)), (42, (0 : Int32)), (43, (0 : Int32)), (44, (0 : Int32)), (46, (0 : Int32))]) aM) H := Eq.mp (congrArg (fun w => va_P (dC, dI) vwCl w H) (stM_iM44 ad cy iM aM [(38, (0 : Int32)), (39, (0 : Int32)), (40, (0 : Int32)), (41, (0 : Int32)), (42, (0 : Int32)), (43, (0 : Int32)), (46, (0 : Int32))] ((0 : Int32)))) hP
  have hD : va_D A (zzM ad cy (us iM [(38, (0 : Int32)), (39, (0 : Int32)), (40, (0 : Int32)), (41, (0 : Int32)), (42, (0 : Int32)), (43, (0 : Int32)), (44, (0 : Int32)), (46, (0 : Int32))]) aM) := Eq.mp (congrArg (fun w => va_D A w) (stM_iM44 ad cy iM aM [(38, (0 : Int32)), (39, (0 : Int32)), (40, (0 : Int32)), (41, (0 : Int32)), (42, (0 : Int32)), (43, (0 : Int32)), (46, (0 : Int32))] ((0 : Int32)))) hD
  refine lv_aload_n hx hb dX8_read_40 rfl (lv_at hl 0 rfl) ?_
  refine lv_iconst (v := 0) hx hb dX8_read_41 (by decide) ?_
  refine va_put (D := (dC, dI)) (ci := 8) (v := .int ((0 : Int32))) (ty := .int) (C := RX8) (T := TX8) (N := 78) hx hb hts ki8 tyX8 tyX8_ok nmX8 hown hK hP hD hS 0 rfl rfl 45 (by decide) kf234 (fun _ h9 => h9) rfl (by decide +kernel) rfl rfl (Nat.le_of_ble_eq_true rfl) dX8_read_42 (fun H locs hP hD hS => ?_)
  have hP : va_P (dC, dI) vwCl (zzM ad cy (us iM [(38, (0 : Int32)), (39, (0 : Int32)), (40, (0 : Int32)), (41, (0 : Int32)), (42, (0 : Int32)), (43, (0 : Int32)), (44, (0 : Int32)), (45, (0 : Int32)), (46, (0 : Int32))]) aM) H := Eq.mp (congrArg (fun w => va_P (dC, dI) vwCl w H) (stM_iM45 ad cy iM aM [(38, (0 : Int32)), (39, (0 : Int32)), (40, (0 : Int32)), (41, (0 : Int32)), (42, (0 : Int32)), (43, (0 : Int32)), (44, (0 : Int32)), (46, (0 : Int32))] ((0 : Int32)))) hP
  have hD : va_D A (zzM ad cy (us iM [(38, (0 : Int32)), (39, (0 : Int32)), (40, (0 : Int32)), (41, (0 : Int32)), (42, (0 : Int32)), (43, (0 : Int32)), (44, (0 : Int32)), (45, (0 : Int32)), (46, (0 : Int32))]) aM) := Eq.mp (congrArg (fun w => va_D A w) (stM_iM45 ad cy iM aM [(38, (0 : Int32)), (39, (0 : Int32)), (40, (0 : Int32)), (41, (0 : Int32)), (42, (0 : Int32)), (43, (0 : Int32)), (44, (0 : Int32)), (46, (0 : Int32))] ((0 : Int32)))) hD
  refine lv_bipush (v := 9) hx hb dX8_read_45 (by decide) ?_
  refine lv_istore_n (lv' := [(1, .int ((9 : Int32))), (0, .ref (ad 0))]) hx hb dX8_read_47 rfl hl (by decide) rfl (fun ls hl => ?_)
  exact B48 N ((us iM [(38, (0 : Int32)), (39, (0 : Int32)), (40, (0 : Int32)), (41, (0 : Int32)), (42, (0 : Int32)), (43, (0 : Int32)), (44, (0 : Int32)), (45, (0 : Int32)), (46, (0 : Int32))])) ((9 : Int32)) aM H locs ls h hP hD hS (lv_sub hl [1, 0] rfl)
