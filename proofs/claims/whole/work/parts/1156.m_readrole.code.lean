def f_M_readRole_85 (N : Nat) (iM3 : Int32) (iM4 : Int32) (iM5 : Int32) (iM43 : Int32) (iM44 : Int32) (iM46 : Int32) (iM47 : Int32) (aM0 : Nat → Int32) (aM7 : Nat → Int32) (aM23 : Nat → Int32) (aM24 : Nat → Int32) (aM26 : Nat → Int32) (aM27 : Nat → Int32) (aM29 : Nat → Int32) (aM31 : Nat → Int32) (v1 : Int32) : Nat → Int32 → (Nat → Int32) → Option (Int32 × Int32 × Int32 × Int32 × (Nat → Int32) × (Nat → Int32) × (Nat → Int32) × (Nat → Int32))
  | 0, _, _ => none
  | n + 1, v2, x_aM26 => if iM5 ≤ v2 then (if ((3 : Int32) + v1) < 0 ∨ 6 ≤ (((3 : Int32) + v1)).toNatClampNeg then none else (some (v1, (iM44 + (1 : Int32)), iM46, iM47, x_aM26, (upd aM27 (((3 : Int32) + v1)).toNatClampNeg iM5), (upd aM29 (((3 : Int32) + v1)).toNatClampNeg (vp_nar .boolean ((0 : Int32)))), (upd aM31 (((3 : Int32) + v1)).toNatClampNeg (vp_nar .boolean ((0 : Int32))))))) else (if (iM4 + v2) < 0 ∨ 2000 ≤ ((iM4 + v2)).toNatClampNeg then none else (if (((8 : Int32) * ((3 : Int32) + v1)) + v2) < 0 ∨ 48 ≤ ((((8 : Int32) * ((3 : Int32) + v1)) + v2)).toNatClampNeg then none else (f_M_readRole_85 N iM3 iM4 iM5 iM43 iM44 iM46 iM47 aM0 aM7 aM23 aM24 aM26 aM27 aM29 aM31 v1 n ((v2 + (1 : Int32))) ((upd x_aM26 ((((8 : Int32) * ((3 : Int32) + v1)) + v2)).toNatClampNeg (vp_nar .byte ((aM0 ((iM4 + v2)).toNatClampNeg))))))))
def f_M_readRole_24 (N : Nat) (iM3 : Int32) (iM4 : Int32) (iM5 : Int32) (iM43 : Int32) (iM44 : Int32) (iM46 : Int32) (iM47 : Int32) (aM0 : Nat → Int32) (aM7 : Nat → Int32) (aM23 : Nat → Int32) (aM24 : Nat → Int32) (aM26 : Nat → Int32) (aM27 : Nat → Int32) (aM29 : Nat → Int32) (aM31 : Nat → Int32)  : Option (Int32 × Int32 × Int32 × Int32 × (Nat → Int32) × (Nat → Int32) × (Nat → Int32) × (Nat → Int32)) := (f_M_misplaced iM3 iM4 iM46 iM47).bind fun q25 => (some ((0 : Int32), iM44, q25.1, q25.2, aM26, aM27, aM29, aM31))
def f_M_readRole (N : Nat) (iM3 : Int32) (iM4 : Int32) (iM5 : Int32) (iM43 : Int32) (iM44 : Int32) (iM46 : Int32) (iM47 : Int32) (aM0 : Nat → Int32) (aM7 : Nat → Int32) (aM23 : Nat → Int32) (aM24 : Nat → Int32) (aM26 : Nat → Int32) (aM27 : Nat → Int32) (aM29 : Nat → Int32) (aM31 : Nat → Int32) : Option (Int32 × Int32 × Int32 × Int32 × (Nat → Int32) × (Nat → Int32) × (Nat → Int32) × (Nat → Int32)) := (f_M_fine iM46).bind fun q1 => (if q1 = 0 then (some ((0 : Int32), iM44, iM46, iM47, aM26, aM27, aM29, aM31)) else (if iM3 = (1 : Int32) then ((f_M_kept N iM3 iM4 iM5 aM0 aM7).bind fun q18 => (if q18 < 0 then ((f_M_roleHere N iM4 iM5 iM44 aM0 aM26 aM27).bind fun q31 => (if q31 < 0 then ((f_M_nameHere N iM4 iM5 iM43 aM0 aM23 aM24).bind fun q42 => (if q42 < 0 then (if iM44 = (3 : Int32) then ((f_M_wrong ((3 : Int32)) iM4 iM46 iM47).bind fun q73 => (some ((0 : Int32), iM44, q73.1, q73.2, aM26, aM27, aM29, aM31))) else (f_M_readRole_85 N iM3 iM4 iM5 iM43 iM44 iM46 iM47 aM0 aM7 aM23 aM24 aM26 aM27 aM29 aM31 iM44 N ((0 : Int32)) aM26)) else ((f_M_wrong ((4 : Int32)) iM4 iM46 iM47).bind fun q54 => (some ((0 : Int32), iM44, q54.1, q54.2, aM26, aM27, aM29, aM31))))) else (some (q31, iM44, iM46, iM47, aM26, aM27, aM29, aM31)))) else (f_M_readRole_24 N iM3 iM4 iM5 iM43 iM44 iM46 iM47 aM0 aM7 aM23 aM24 aM26 aM27 aM29 aM31))) else (f_M_readRole_24 N iM3 iM4 iM5 iM43 iM44 iM46 iM47 aM0 aM7 aM23 aM24 aM26 aM27 aM29 aM31)))
set_option maxHeartbeats 8000000 in
set_option maxRecDepth 100000 in
theorem c_M_readRole (l : Launch) (dC : Nat → ClassId) (dI : Nat → Nat → Nat) (cy : Nat → ClassId) (ad : Nat → Nat) (sz : Nat) (N : Nat) (iM : Nat → Int32) (aM : Nat → Nat → Int32) (q : Int32 × Int32 × Int32 × Int32 × (Nat → Int32) × (Nat → Int32) × (Nat → Int32) × (Nat → Int32)) (h : f_M_readRole N (iM 3) (iM 4) (iM 5) (iM 43) (iM 44) (iM 46) (iM 47) (aM 0) (aM 7) (aM 23) (aM 24) (aM 26) (aM 27) (aM 29) (aM 31) = some q) : Met l yX8_readRole wsX8_readRole ({ frames := 2, cells := 0, slots := 0, locals := 46 } : Room) (cP (dC, dI) cy [.ref (ad 0)] (zzM ad cy iM aM) sz) (cQi (dC, dI) cy q.1 (zzM ad cy (us iM [(44, q.2.1), (46, q.2.2.1), (47, q.2.2.2.1)]) (us aM [(26, q.2.2.2.2.1), (27, q.2.2.2.2.2.1), (29, q.2.2.2.2.2.2.1), (31, q.2.2.2.2.2.2.2)])) (va_A (zzM ad cy iM aM) sz)) 0 0 (va_A (zzM ad cy iM aM) sz) := by
  refine Met.ofW (cc := cX8_readRole) (maxL := 3) (ret := (some .int)) (by decide) rfl ?_
  intro p e s m args below meth c s₁ B hml hv
  obtain ⟨hav, hsz, hP, hK, hD0, hN⟩ := hv
  have hx := B.exec
  have hb := B.bytes
  have hr := B.returns
  have hts := atoms_spec (ws := wsX8_readRole) B.pre
  have hown : s.vm.findClass RX8 = some m.cls := findClass_of_methodNamed B.named
  have hlocks := B.notSynchronized
  subst hsz
  have hD := hD0.self (sz := s.heap.size)
  generalize hAe : va_A (zzM ad cy iM aM) s.heap.size = A at hD ⊢
  have hA : ∀ q : Nat, s.heap.size ≤ q → A q := fun q h => by rw [← hAe]; exact Or.inr h
  have hS : va_S A s.heap s.heap [] := va_S.rf
  generalize hWQ : (zzM ad cy (us iM [(44, q.2.1), (46, q.2.2.1), (47, q.2.2.2.1)]) (us aM [(26, q.2.2.2.2.1), (27, q.2.2.2.2.2.1), (29, q.2.2.2.2.2.2.1), (31, q.2.2.2.2.2.2.2)])) = WQ
  generalize hQQ : MQ below (cQi (dC, dI) cy q.1 WQ A) args s 0 0 A = QQ
  have hl := lv_entry ([.ref (ad 0)] : List Value) (n := 3) (Nat.le_of_ble_eq_true rfl)
  have hfr := lg_entry_eq m ([.ref (ad 0)] : List Value) 3
  rw [← hav] at hfr
  rw [hfr]
  clear hfr hav
  generalize (lg_sl ([.ref (ad 0)] : List Value) ++ List.replicate (3 - (lg_sl ([.ref (ad 0)] : List Value)).length) Slot.unset).toArray = ls at hl ⊢
  have hl : lv_has ls 3 [(0, .ref (ad 0))] := hl
  have kf172 := hts _ (List.mem_cons_of_mem _ m_fl_X8_172)
  have ki8 := (fun w h => List.mem_cons_of_mem _ (i_X8 w h) : ∀ w ∈ u_ws RX8 TX8 78, w ∈ wsX8_readRole)
  have kf60 := hts _ (List.mem_cons_of_mem _ m_fl_X8_60)
  have kf63 := hts _ (List.mem_cons_of_mem _ m_fl_X8_63)
  have kf70 := hts _ (List.mem_cons_of_mem _ m_fl_X8_70)
  have kf221 := hts _ (List.mem_cons_of_mem _ m_fl_X8_221)
  have kf57 := hts _ (List.mem_cons_of_mem _ m_fl_X8_57)
  have kf7 := hts _ (List.mem_cons_of_mem _ m_fl_X8_7)
  have kf169 := hts _ (List.mem_cons_of_mem _ m_fl_X8_169)
  have kf178 := hts _ (List.mem_cons_of_mem _ m_fl_X8_178)
  refine (?_ : ∀ (H : Heap) (locs : List Loc), va_P (dC, dI) vwCl (zzM ad cy iM aM) H → va_D A (zzM ad cy iM aM) → va_S A s.heap H locs → W p l e ({ frames := 2, cells := 0, slots := 0, locals := 46 } : Room) s m args below meth c H locs 0 0 QQ (F0 m 0 ls [])) s.heap [] hP hD hS
  clear hP hD hS
  have B85 : ∀ (n : Nat) (v1 : Int32) (v2 : Int32) (x_aM26 : Nat → Int32) (H : Heap) (locs : List Loc) (ls : Array Slot), f_M_readRole_85 N (iM 3) (iM 4) (iM 5) (iM 43) (iM 44) (iM 46) (iM 47) (aM 0) (aM 7) (aM 23) (aM 24) (aM 26) (aM 27) (aM 29) (aM 31) v1 n v2 x_aM26 = some q → va_P (dC, dI) vwCl (zzM ad cy iM (us aM [(26, x_aM26)])) H → va_D A (zzM ad cy iM (us aM [(26, x_aM26)])) → va_S A s.heap H locs → lv_has ls 3 [(0, .ref (ad 0)), (1, .int v1), (2, .int v2)] → W p l e ({ frames := 2, cells := 0, slots := 0, locals := 46 } : Room) s m args below meth c H locs 0 0 QQ (F0 m 85 ls []) := by
    intro n
    induction n with
    | zero =>
      intro v1 v2 x_aM26 H locs ls h hP hD hS hl
      rw [f_M_readRole_85] at h
      cases h
    | succ n ih =>
      intro v1 v2 x_aM26 H locs ls h hP hD hS hl
      rw [f_M_readRole_85] at h
      refine lv_iload_n hx hb dX8_readRole_85 rfl (lv_at hl 2 rfl) ?_
      refine lv_aload_n hx hb dX8_readRole_86 rfl (lv_at hl 0 rfl) ?_
      refine va_get (D := (dC, dI)) (ci := 8) (v := .int (iM 5)) (C := RX8) (T := TX8) (N := 78) hx hb hts ki8 hown hK hP 0 rfl rfl 5 (by decide) kf172 (fun _ h9 => h9) rfl dX8_readRole_87 ?_
      refine lv_icmp_ge (tgt := 123) hx hb dX8_readRole_90 (by decide) (fun cz => ?_) (fun cz => ?_)
      · have h := g_t h cz
        refine lv_aload_n hx hb dX8_readRole_123 rfl (lv_at hl 0 rfl) ?_
        refine va_get (D := (dC, dI)) (ci := 8) (v := .ref (ad 17)) (C := RX8) (T := TX8) (N := 78) hx hb hts ki8 hown hK hP 0 rfl rfl 27 (by decide) kf60 (fun _ h9 => h9) rfl dX8_readRole_124 ?_
        refine lv_iconst (v := 3) hx hb dX8_readRole_127 (by decide) ?_
        refine lv_iload_n hx hb dX8_readRole_128 rfl (lv_at hl 1 rfl) ?_
        refine lv_iadd hx hb dX8_readRole_129 ?_
        refine lv_aload_n hx hb dX8_readRole_130 rfl (lv_at hl 0 rfl) ?_
        refine va_get (D := (dC, dI)) (ci := 8) (v := .int (iM 5)) (C := RX8) (T := TX8) (N := 78) hx hb hts ki8 hown hK hP 0 rfl rfl 5 (by decide) kf172 (fun _ h9 => h9) rfl dX8_readRole_131 ?_
        obtain ⟨g_57, h⟩ := g_n h
        refine va_iast (f := (aM 27)) hx hb hK hP hD hS 17 0 rfl rfl g_57 dX8_readRole_134 (fun H locs hP hD hS => ?_)
        have hP : va_P (dC, dI) vwCl (zzM ad cy iM (us aM [(26, x_aM26), (27, (upd (aM 27) (((3 : Int32) + v1)).toNatClampNeg (iM 5)))])) H := Eq.mp (congrArg (fun w => va_P (dC, dI) vwCl w H) (stM_aM27 ad cy iM aM [(26, x_aM26)] ((upd (aM 27) (((3 : Int32) + v1)).toNatClampNeg (iM 5))))) hP
        have hD : va_D A (zzM ad cy iM (us aM [(26, x_aM26), (27, (upd (aM 27) (((3 : Int32) + v1)).toNatClampNeg (iM 5)))])) := Eq.mp (congrArg (fun w => va_D A w) (stM_aM27 ad cy iM aM [(26, x_aM26)] ((upd (aM 27) (((3 : Int32) + v1)).toNatClampNeg (iM 5))))) hD
        refine lv_aload_n hx hb dX8_readRole_135 rfl (lv_at hl 0 rfl) ?_
        refine va_get (D := (dC, dI)) (ci := 8) (v := .ref (ad 18)) (C := RX8) (T := TX8) (N := 78) hx hb hts ki8 hown hK hP 0 rfl rfl 29 (by decide) kf63 (fun _ h9 => h9) rfl dX8_readRole_136 ?_
        refine lv_iconst (v := 3) hx hb dX8_readRole_139 (by decide) ?_
        refine lv_iload_n hx hb dX8_readRole_140 rfl (lv_at hl 1 rfl) ?_
        refine lv_iadd hx hb dX8_readRole_141 ?_
        refine lv_iconst (v := 0) hx hb dX8_readRole_142 (by decide) ?_
        refine va_zast (f := (aM 29)) hx hb hK hP hD hS 18 4 rfl rfl g_57 dX8_readRole_143 (fun H locs hP hD hS => ?_)
        have hP : va_P (dC, dI) vwCl (zzM ad cy iM (us aM [(26, x_aM26), (27, (upd (aM 27) (((3 : Int32) + v1)).toNatClampNeg (iM 5))), (29, (upd (aM 29) (((3 : Int32) + v1)).toNatClampNeg (vp_nar .boolean ((0 : Int32)))))])) H := Eq.mp (congrArg (fun w => va_P (dC, dI) vwCl w H) (stM_aM29 ad cy iM aM [(26, x_aM26), (27, (upd (aM 27) (((3 : Int32) + v1)).toNatClampNeg (iM 5)))] ((upd (aM 29) (((3 : Int32) + v1)).toNatClampNeg (vp_nar .boolean ((0 : Int32))))))) hP
        have hD : va_D A (zzM ad cy iM (us aM [(26, x_aM26), (27, (upd (aM 27) (((3 : Int32) + v1)).toNatClampNeg (iM 5))), (29, (upd (aM 29) (((3 : Int32) + v1)).toNatClampNeg (vp_nar .boolean ((0 : Int32)))))])) := Eq.mp (congrArg (fun w => va_D A w) (stM_aM29 ad cy iM aM [(26, x_aM26), (27, (upd (aM 27) (((3 : Int32) + v1)).toNatClampNeg (iM 5)))] ((upd (aM 29) (((3 : Int32) + v1)).toNatClampNeg (vp_nar .boolean ((0 : Int32))))))) hD
        refine lv_aload_n hx hb dX8_readRole_144 rfl (lv_at hl 0 rfl) ?_
        refine va_get (D := (dC, dI)) (ci := 8) (v := .ref (ad 20)) (C := RX8) (T := TX8) (N := 78) hx hb hts ki8 hown hK hP 0 rfl rfl 31 (by decide) kf70 (fun _ h9 => h9) rfl dX8_readRole_145 ?_
        refine lv_iconst (v := 3) hx hb dX8_readRole_148 (by decide) ?_
        refine lv_iload_n hx hb dX8_readRole_149 rfl (lv_at hl 1 rfl) ?_
        refine lv_iadd hx hb dX8_readRole_150 ?_
        refine lv_iconst (v := 0) hx hb dX8_readRole_151 (by decide) ?_
        refine va_zast (f := (aM 31)) hx hb hK hP hD hS 20 4 rfl rfl g_57 dX8_readRole_152 (fun H locs hP hD hS => ?_)
        have hP : va_P (dC, dI) vwCl (zzM ad cy iM (us aM [(26, x_aM26), (27, (upd (aM 27) (((3 : Int32) + v1)).toNatClampNeg (iM 5))), (29, (upd (aM 29) (((3 : Int32) + v1)).toNatClampNeg (vp_nar .boolean ((0 : Int32))))), (31, (upd (aM 31) (((3 : Int32) + v1)).toNatClampNeg (vp_nar .boolean ((0 : Int32)))))])) H := Eq.mp (congrArg (fun w => va_P (dC, dI) vwCl w H) (stM_aM31 ad cy iM aM [(26, x_aM26), (27, (upd (aM 27) (((3 : Int32) + v1)).toNatClampNeg (iM 5))), (29, (upd (aM 29) (((3 : Int32) + v1)).toNatClampNeg (vp_nar .boolean ((0 : Int32)))))] ((upd (aM 31) (((3 : Int32) + v1)).toNatClampNeg (vp_nar .boolean ((0 : Int32))))))) hP
        have hD : va_D A (zzM ad cy iM (us aM [(26, x_aM26), (27, (upd (aM 27) (((3 : Int32) + v1)).toNatClampNeg (iM 5))), (29, (upd (aM 29) (((3 : Int32) + v1)).toNatClampNeg (vp_nar .boolean ((0 : Int32))))), (31, (upd (aM 31) (((3 : Int32) + v1)).toNatClampNeg (vp_nar .boolean ((0 : Int32)))))])) := Eq.mp (congrArg (fun w => va_D A w) (stM_aM31 ad cy iM aM [(26, x_aM26), (27, (upd (aM 27) (((3 : Int32) + v1)).toNatClampNeg (iM 5))), (29, (upd (aM 29) (((3 : Int32) + v1)).toNatClampNeg (vp_nar .boolean ((0 : Int32)))))] ((upd (aM 31) (((3 : Int32) + v1)).toNatClampNeg (vp_nar .boolean ((0 : Int32))))))) hD
        refine lv_aload_n hx hb dX8_readRole_153 rfl (lv_at hl 0 rfl) ?_
        refine lv_dup hx hb dX8_readRole_154 rfl ?_
        refine va_get (D := (dC, dI)) (ci := 8) (v := .int (iM 44)) (C := RX8) (T := TX8) (N := 78) hx hb hts ki8 hown hK hP 0 rfl rfl 44 (by decide) kf221 (fun _ h9 => h9) rfl dX8_readRole_155 ?_
        refine lv_iconst (v := 1) hx hb dX8_readRole_158 (by decide) ?_
        refine lv_iadd hx hb dX8_readRole_159 ?_
        refine va_put (D := (dC, dI)) (ci := 8) (v := .int (((iM 44) + (1 : Int32)))) (ty := .int) (C := RX8) (T := TX8) (N := 78) hx hb hts ki8 tyX8 tyX8_ok nmX8 hown hK hP hD hS 0 rfl rfl 44 (by decide) kf221 (fun _ h9 => h9) rfl (by decide +kernel) rfl rfl (Nat.le_of_ble_eq_true rfl) dX8_readRole_160 (fun H locs hP hD hS => ?_)
        have hP : va_P (dC, dI) vwCl (zzM ad cy (us iM [(44, ((iM 44) + (1 : Int32)))]) (us aM [(26, x_aM26), (27, (upd (aM 27) (((3 : Int32) + v1)).toNatClampNeg (iM 5))), (29, (upd (aM 29) (((3 : Int32) + v1)).toNatClampNeg (vp_nar .boolean ((0 : Int32))))), (31, (upd (aM 31) (((3 : Int32) + v1)).toNatClampNeg (vp_nar .boolean ((0 : Int32)))))])) H := Eq.mp (congrArg (fun w => va_P (dC, dI) vwCl w H) (sfM_iM44 ad cy iM (us aM [(26, x_aM26), (27, (upd (aM 27) (((3 : Int32) + v1)).toNatClampNeg (iM 5))), (29, (upd (aM 29) (((3 : Int32) + v1)).toNatClampNeg (vp_nar .boolean ((0 : Int32))))), (31, (upd (aM 31) (((3 : Int32) + v1)).toNatClampNeg (vp_nar .boolean ((0 : Int32)))))]) (((iM 44) + (1 : Int32))))) hP
        have hD : va_D A (zzM ad cy (us iM [(44, ((iM 44) + (1 : Int32)))]) (us aM [(26, x_aM26), (27, (upd (aM 27) (((3 : Int32) + v1)).toNatClampNeg (iM 5))), (29, (upd (aM 29) (((3 : Int32) + v1)).toNatClampNeg (vp_nar .boolean ((0 : Int32))))), (31, (upd (aM 31) (((3 : Int32) + v1)).toNatClampNeg (vp_nar .boolean ((0 : Int32)))))])) := Eq.mp (congrArg (fun w => va_D A w) (sfM_iM44 ad cy iM (us aM [(26, x_aM26), (27, (upd (aM 27) (((3 : Int32) + v1)).toNatClampNeg (iM 5))), (29, (upd (aM 29) (((3 : Int32) + v1)).toNatClampNeg (vp_nar .boolean ((0 : Int32))))), (31, (upd (aM 31) (((3 : Int32) + v1)).toNatClampNeg (vp_nar .boolean ((0 : Int32)))))]) (((iM 44) + (1 : Int32))))) hD
        refine lv_iload_n hx hb dX8_readRole_163 rfl (lv_at hl 1 rfl) ?_
        have h' := Option.some.inj h
        rw [← hQQ]
        exact W.iret (v := v1) hx hb hr (fun t ht hW => ⟨⟨v1, (), rfl, by rw [← h'], by rw [← hWQ, ← h', ht]; exact hP, va_K.moved hW.alike hK⟩, hS.F ht⟩) hS.2.2 dX8_readRole_164
      · have h := g_f h cz
        refine lv_aload_n hx hb dX8_readRole_93 rfl (lv_at hl 0 rfl) ?_
        refine va_get (D := (dC, dI)) (ci := 8) (v := .ref (ad 16)) (C := RX8) (T := TX8) (N := 78) hx hb hts ki8 hown hK hP 0 rfl rfl 26 (by decide) kf57 (fun _ h9 => h9) rfl dX8_readRole_94 ?_
        refine lv_bipush (v := 8) hx hb dX8_readRole_97 (by decide) ?_
        refine lv_iconst (v := 3) hx hb dX8_readRole_99 (by decide) ?_
        refine lv_iload_n hx hb dX8_readRole_100 rfl (lv_at hl 1 rfl) ?_
        refine lv_iadd hx hb dX8_readRole_101 ?_
        refine lv_imul hx hb dX8_readRole_102 ?_
        refine lv_iload_n hx hb dX8_readRole_103 rfl (lv_at hl 2 rfl) ?_
        refine lv_iadd hx hb dX8_readRole_104 ?_
        refine lv_aload_n hx hb dX8_readRole_105 rfl (lv_at hl 0 rfl) ?_
        refine va_get (D := (dC, dI)) (ci := 8) (v := .ref (ad 1)) (C := RX8) (T := TX8) (N := 78) hx hb hts ki8 hown hK hP 0 rfl rfl 0 (by decide) kf7 (fun _ h9 => h9) rfl dX8_readRole_106 ?_
        refine lv_aload_n hx hb dX8_readRole_109 rfl (lv_at hl 0 rfl) ?_
        refine va_get (D := (dC, dI)) (ci := 8) (v := .int (iM 4)) (C := RX8) (T := TX8) (N := 78) hx hb hts ki8 hown hK hP 0 rfl rfl 4 (by decide) kf169 (fun _ h9 => h9) rfl dX8_readRole_110 ?_
        refine lv_iload_n hx hb dX8_readRole_113 rfl (lv_at hl 2 rfl) ?_
        refine lv_iadd hx hb dX8_readRole_114 ?_
        obtain ⟨g_58, h⟩ := g_n h
        refine va_bald (f := (aM 0)) hx hb hK hP 1 1 rfl rfl g_58 dX8_readRole_115 ?_
        obtain ⟨g_59, h⟩ := g_n h
        refine va_bast (f := x_aM26) hx hb hK hP hD hS 16 1 rfl rfl g_59 dX8_readRole_116 (fun H locs hP hD hS => ?_)
        have hP : va_P (dC, dI) vwCl (zzM ad cy iM (us aM [(26, (upd x_aM26 ((((8 : Int32) * ((3 : Int32) + v1)) + v2)).toNatClampNeg (vp_nar .byte (((aM 0) (((iM 4) + v2)).toNatClampNeg)))))])) H := Eq.mp (congrArg (fun w => va_P (dC, dI) vwCl w H) (stM_aM26 ad cy iM aM [(26, x_aM26)] ((upd x_aM26 ((((8 : Int32) * ((3 : Int32) + v1)) + v2)).toNatClampNeg (vp_nar .byte (((aM 0) (((iM 4) + v2)).toNatClampNeg))))))) hP
        have hD : va_D A (zzM ad cy iM (us aM [(26, (upd x_aM26 ((((8 : Int32) * ((3 : Int32) + v1)) + v2)).toNatClampNeg (vp_nar .byte (((aM 0) (((iM 4) + v2)).toNatClampNeg)))))])) := Eq.mp (congrArg (fun w => va_D A w) (stM_aM26 ad cy iM aM [(26, x_aM26)] ((upd x_aM26 ((((8 : Int32) * ((3 : Int32) + v1)) + v2)).toNatClampNeg (vp_nar .byte (((aM 0) (((iM 4) + v2)).toNatClampNeg))))))) hD
        refine lv_iinc (v := (v2 + (1 : Int32))) (lv' := [(2, .int ((v2 + (1 : Int32)))), (0, .ref (ad 0)), (1, .int v1)]) hx hb dX8_readRole_117 hl (k := 2) rfl rfl (by decide) rfl (fun ls hl => ?_)
        refine lv_goto (tgt := 85) hx hb dX8_readRole_120 (by decide) ?_
        exact ih v1 ((v2 + (1 : Int32))) ((upd x_aM26 ((((8 : Int32) * ((3 : Int32) + v1)) + v2)).toNatClampNeg (vp_nar .byte (((aM 0) (((iM 4) + v2)).toNatClampNeg))))) H locs ls h hP hD hS (lv_sub hl [1, 2, 0] rfl)
  have B24 : ∀  (H : Heap) (locs : List Loc) (ls : Array Slot), f_M_readRole_24 N (iM 3) (iM 4) (iM 5) (iM 43) (iM 44) (iM 46) (iM 47) (aM 0) (aM 7) (aM 23) (aM 24) (aM 26) (aM 27) (aM 29) (aM 31) = some q → va_P (dC, dI) vwCl (zzM ad cy iM aM) H → va_D A (zzM ad cy iM aM) → va_S A s.heap H locs → lv_has ls 3 [(0, .ref (ad 0))] → W p l e ({ frames := 2, cells := 0, slots := 0, locals := 46 } : Room) s m args below meth c H locs 0 0 QQ (F0 m 24 ls []) := by
    intro H locs ls h hP hD hS hl
    unfold f_M_readRole_24 at h
    refine lv_aload_n hx hb dX8_readRole_24 rfl (lv_at hl 0 rfl) ?_
    obtain ⟨q25, e25, h⟩ := g_b h
    refine callVvs (cc := cX8_readRole) (w1 := zzM ad cy (us iM [(46, q25.1), (47, q25.2)]) aM) (As := []) (rest := []) ⟨hx, hb, hml, hown, hts⟩ (c_M_misplaced l dC dI cy ad H.size iM aM q25 e25) (cwV 0 hts (goodV m_ml_X8_208 m_im_X8_misplaced m_se_X8_misplaced m_in_X8 m_cd_X8_misplaced) rfl rfl rfl (by decide +kernel) ⟨Nat.le_of_ble_eq_true rfl, Nat.le_of_ble_eq_true rfl⟩) hN hK hP hD hS hA rfl 0 rfl rfl rfl hl.1 rfl (Nat.le_of_ble_eq_true rfl) dX8_readRole_25 ⟨Nat.zero_le _, Nat.zero_le _⟩ (fun H locs hP hD hS => ?_)
    refine lv_iconst (v := 0) hx hb dX8_readRole_28 (by decide) ?_
    have h' := Option.some.inj h
    rw [← hQQ]
    exact W.iret (v := (0 : Int32)) hx hb hr (fun t ht hW => ⟨⟨(0 : Int32), (), rfl, by rw [← h'], by rw [← hWQ, ← h', ht]; exact hP, va_K.moved hW.alike hK⟩, hS.F ht⟩) hS.2.2 dX8_readRole_29
  intro H locs hP hD hS
  unfold f_M_readRole at h
  refine lv_aload_n hx hb dX8_readRole_0 rfl (lv_at hl 0 rfl) ?_
  obtain ⟨q1, e1, h⟩ := g_b h
  refine callVis (cc := cX8_readRole) (w1 := zzM ad cy iM aM) (As := []) (rest := []) ⟨hx, hb, hml, hown, hts⟩ (c_M_fine l dC dI cy ad H.size iM aM q1 e1) (cwV 0 hts (goodV m_ml_X8_198 m_im_X8_fine m_se_X8_fine m_in_X8 m_cd_X8_fine) rfl rfl rfl (by decide +kernel) ⟨Nat.le_of_ble_eq_true rfl, Nat.le_of_ble_eq_true rfl⟩) hN hK hP hD hS hA rfl 0 rfl rfl rfl hl.1 rfl (Nat.le_of_ble_eq_true rfl) dX8_readRole_1 ⟨Nat.zero_le _, Nat.zero_le _⟩ (fun H locs hP hD hS => ?_)
  refine lv_if_ne (tgt := 9) hx hb dX8_readRole_4 (by decide) (fun cz => ?_) (fun cz => ?_)
  · have h := g_f h cz
    refine lv_aload_n hx hb dX8_readRole_9 rfl (lv_at hl 0 rfl) ?_
    refine va_get (D := (dC, dI)) (ci := 8) (v := .int (iM 3)) (C := RX8) (T := TX8) (N := 78) hx hb hts ki8 hown hK hP 0 rfl rfl 3 (by decide) kf178 (fun _ h9 => h9) rfl dX8_readRole_10 ?_
    refine lv_iconst (v := 1) hx hb dX8_readRole_13 (by decide) ?_
    refine lv_icmp_ne (tgt := 24) hx hb dX8_readRole_14 (by decide) (fun cz => ?_) (fun cz => ?_)
    · have h := g_f h cz
      exact B24 H locs ls h hP hD hS (lv_sub hl [0] rfl)
    · have h := g_t h cz
      refine lv_aload_n hx hb dX8_readRole_17 rfl (lv_at hl 0 rfl) ?_
      obtain ⟨q18, e18, h⟩ := g_b h
      refine callVis (cc := cX8_readRole) (w1 := zzM ad cy iM aM) (As := []) (rest := []) ⟨hx, hb, hml, hown, hts⟩ (c_M_kept l dC dI cy ad H.size N iM aM q18 e18) (cwV 0 hts (goodV m_ml_X8_224 m_im_X8_kept m_se_X8_kept m_in_X8 m_cd_X8_kept) rfl rfl rfl (by decide +kernel) ⟨Nat.le_of_ble_eq_true rfl, Nat.le_of_ble_eq_true rfl⟩) hN hK hP hD hS hA rfl 0 rfl rfl rfl hl.1 rfl (Nat.le_of_ble_eq_true rfl) dX8_readRole_18 ⟨Nat.zero_le _, Nat.zero_le _⟩ (fun H locs hP hD hS => ?_)
      refine lv_if_lt (tgt := 30) hx hb dX8_readRole_21 (by decide) (fun cz => ?_) (fun cz => ?_)
      · have h := g_t h cz
        refine lv_aload_n hx hb dX8_readRole_30 rfl (lv_at hl 0 rfl) ?_
        obtain ⟨q31, e31, h⟩ := g_b h
        refine callVis (cc := cX8_readRole) (w1 := zzM ad cy iM aM) (As := []) (rest := []) ⟨hx, hb, hml, hown, hts⟩ (c_M_roleHere l dC dI cy ad H.size N iM aM q31 e31) (cwV 0 hts (goodV m_ml_X8_228 m_im_X8_roleHere m_se_X8_roleHere m_in_X8 m_cd_X8_roleHere) rfl rfl rfl (by decide +kernel) ⟨Nat.le_of_ble_eq_true rfl, Nat.le_of_ble_eq_true rfl⟩) hN hK hP hD hS hA rfl 0 rfl rfl rfl hl.1 rfl (Nat.le_of_ble_eq_true rfl) dX8_readRole_31 ⟨Nat.zero_le _, Nat.zero_le _⟩ (fun H locs hP hD hS => ?_)
        refine lv_istore_n (lv' := [(1, .int q31), (0, .ref (ad 0))]) hx hb dX8_readRole_34 rfl hl (by decide) rfl (fun ls hl => ?_)
        refine lv_iload_n hx hb dX8_readRole_35 rfl (lv_at hl 0 rfl) ?_
        refine lv_if_lt (tgt := 41) hx hb dX8_readRole_36 (by decide) (fun cz => ?_) (fun cz => ?_)
        · have h := g_t h cz
          refine lv_aload_n hx hb dX8_readRole_41 rfl (lv_at hl 1 rfl) ?_
          obtain ⟨q42, e42, h⟩ := g_b h
          refine callVis (cc := cX8_readRole) (w1 := zzM ad cy iM aM) (As := []) (rest := []) ⟨hx, hb, hml, hown, hts⟩ (c_M_nameHere l dC dI cy ad H.size N iM aM q42 e42) (cwV 0 hts (goodV m_ml_X8_231 m_im_X8_nameHere m_se_X8_nameHere m_in_X8 m_cd_X8_nameHere) rfl rfl rfl (by decide +kernel) ⟨Nat.le_of_ble_eq_true rfl, Nat.le_of_ble_eq_true rfl⟩) hN hK hP hD hS hA rfl 0 rfl rfl rfl hl.1 rfl (Nat.le_of_ble_eq_true rfl) dX8_readRole_42 ⟨Nat.zero_le _, Nat.zero_le _⟩ (fun H locs hP hD hS => ?_)
          refine lv_if_lt (tgt := 59) hx hb dX8_readRole_45 (by decide) (fun cz => ?_) (fun cz => ?_)
          · have h := g_t h cz
            refine lv_aload_n hx hb dX8_readRole_59 rfl (lv_at hl 1 rfl) ?_
            refine va_get (D := (dC, dI)) (ci := 8) (v := .int (iM 44)) (C := RX8) (T := TX8) (N := 78) hx hb hts ki8 hown hK hP 0 rfl rfl 44 (by decide) kf221 (fun _ h9 => h9) rfl dX8_readRole_60 ?_
            refine lv_iconst (v := 3) hx hb dX8_readRole_63 (by decide) ?_
            refine lv_icmp_ne (tgt := 78) hx hb dX8_readRole_64 (by decide) (fun cz => ?_) (fun cz => ?_)
            · have h := g_f h cz
              refine lv_aload_n hx hb dX8_readRole_78 rfl (lv_at hl 1 rfl) ?_
              refine va_get (D := (dC, dI)) (ci := 8) (v := .int (iM 44)) (C := RX8) (T := TX8) (N := 78) hx hb hts ki8 hown hK hP 0 rfl rfl 44 (by decide) kf221 (fun _ h9 => h9) rfl dX8_readRole_79 ?_
              refine lv_istore_n (lv' := [(1, .int (iM 44)), (0, .ref (ad 0))]) hx hb dX8_readRole_82 rfl hl (by decide) rfl (fun ls hl => ?_)
              refine lv_iconst (v := 0) hx hb dX8_readRole_83 (by decide) ?_
              refine lv_istore_n (lv' := [(2, .int ((0 : Int32))), (1, .int (iM 44)), (0, .ref (ad 0))]) hx hb dX8_readRole_84 rfl hl (by decide) rfl (fun ls hl => ?_)
              exact B85 N (iM 44) ((0 : Int32)) (aM 26) H locs ls h hP hD hS (lv_sub hl [2, 1, 0] rfl)
            · have h := g_t h cz
              refine lv_aload_n hx hb dX8_readRole_67 rfl (lv_at hl 1 rfl) ?_
              refine lv_iconst (v := 3) hx hb dX8_readRole_68 (by decide) ?_
              refine lv_aload_n hx hb dX8_readRole_69 rfl (lv_at hl 1 rfl) ?_
              refine va_get (D := (dC, dI)) (ci := 8) (v := .int (iM 4)) (C := RX8) (T := TX8) (N := 78) hx hb hts ki8 hown hK hP 0 rfl rfl 4 (by decide) kf169 (fun _ h9 => h9) rfl dX8_readRole_70 ?_
              obtain ⟨q73, e73, h⟩ := g_b h
              refine callVvs (cc := cX8_readRole) (w1 := zzM ad cy (us iM [(46, q73.1), (47, q73.2)]) aM) (As := [.int ((3 : Int32)), .int (iM 4)]) (rest := []) ⟨hx, hb, hml, hown, hts⟩ (c_M_wrong l dC dI cy ad H.size ((3 : Int32)) (iM 4) iM aM q73 e73) (cwV 2 hts (goodV m_ml_X8_194 m_im_X8_wrong m_se_X8_wrong m_in_X8 m_cd_X8_wrong) rfl rfl rfl (by decide +kernel) ⟨Nat.le_of_ble_eq_true rfl, Nat.le_of_ble_eq_true rfl⟩) hN hK hP hD hS hA rfl 0 rfl rfl rfl hl.1 rfl (Nat.le_of_ble_eq_true rfl) dX8_readRole_73 ⟨Nat.zero_le _, Nat.zero_le _⟩ (fun H locs hP hD hS => ?_)
              refine lv_iconst (v := 0) hx hb dX8_readRole_76 (by decide) ?_
              have h' := Option.some.inj h
              rw [← hQQ]
              exact W.iret (v := (0 : Int32)) hx hb hr (fun t ht hW => ⟨⟨(0 : Int32), (), rfl, by rw [← h'], by rw [← hWQ, ← h', ht]; exact hP, va_K.moved hW.alike hK⟩, hS.F ht⟩) hS.2.2 dX8_readRole_77
          · have h := g_f h cz
            refine lv_aload_n hx hb dX8_readRole_48 rfl (lv_at hl 1 rfl) ?_
            refine lv_iconst (v := 4) hx hb dX8_readRole_49 (by decide) ?_
            refine lv_aload_n hx hb dX8_readRole_50 rfl (lv_at hl 1 rfl) ?_
            refine va_get (D := (dC, dI)) (ci := 8) (v := .int (iM 4)) (C := RX8) (T := TX8) (N := 78) hx hb hts ki8 hown hK hP 0 rfl rfl 4 (by decide) kf169 (fun _ h9 => h9) rfl dX8_readRole_51 ?_
            obtain ⟨q54, e54, h⟩ := g_b h
            refine callVvs (cc := cX8_readRole) (w1 := zzM ad cy (us iM [(46, q54.1), (47, q54.2)]) aM) (As := [.int ((4 : Int32)), .int (iM 4)]) (rest := []) ⟨hx, hb, hml, hown, hts⟩ (c_M_wrong l dC dI cy ad H.size ((4 : Int32)) (iM 4) iM aM q54 e54) (cwV 2 hts (goodV m_ml_X8_194 m_im_X8_wrong m_se_X8_wrong m_in_X8 m_cd_X8_wrong) rfl rfl rfl (by decide +kernel) ⟨Nat.le_of_ble_eq_true rfl, Nat.le_of_ble_eq_true rfl⟩) hN hK hP hD hS hA rfl 0 rfl rfl rfl hl.1 rfl (Nat.le_of_ble_eq_true rfl) dX8_readRole_54 ⟨Nat.zero_le _, Nat.zero_le _⟩ (fun H locs hP hD hS => ?_)
            refine lv_iconst (v := 0) hx hb dX8_readRole_57 (by decide) ?_
            have h' := Option.some.inj h
            rw [← hQQ]
            exact W.iret (v := (0 : Int32)) hx hb hr (fun t ht hW => ⟨⟨(0 : Int32), (), rfl, by rw [← h'], by rw [← hWQ, ← h', ht]; exact hP, va_K.moved hW.alike hK⟩, hS.F ht⟩) hS.2.2 dX8_readRole_58
        · have h := g_f h cz
          refine lv_iload_n hx hb dX8_readRole_39 rfl (lv_at hl 0 rfl) ?_
          have h' := Option.some.inj h
          rw [← hQQ]
          exact W.iret (v := q31) hx hb hr (fun t ht hW => ⟨⟨q31, (), rfl, by rw [← h'], by rw [← hWQ, ← h', ht]; exact hP, va_K.moved hW.alike hK⟩, hS.F ht⟩) hS.2.2 dX8_readRole_40
      · have h := g_f h cz
        exact B24 H locs ls h hP hD hS (lv_sub hl [0] rfl)
  · have h := g_t h cz
    refine lv_iconst (v := 0) hx hb dX8_readRole_7 (by decide) ?_
    have h' := Option.some.inj h
    rw [← hQQ]
    exact W.iret (v := (0 : Int32)) hx hb hr (fun t ht hW => ⟨⟨(0 : Int32), (), rfl, by rw [← h'], by rw [← hWQ, ← h', ht]; exact hP, va_K.moved hW.alike hK⟩, hS.F ht⟩) hS.2.2 dX8_readRole_8
