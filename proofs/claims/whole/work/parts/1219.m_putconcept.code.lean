def f_M_putConcept_12 (N : Nat) (iM73 : Int32) (iM77 : Int32) (aM7 : Nat → Int32) (aM8 : Nat → Int32) (aM9 : Nat → Int32) (aM10 : Nat → Int32) (aM23 : Nat → Int32) (aM24 : Nat → Int32) (aM26 : Nat → Int32) (aM27 : Nat → Int32) (aM72 : Nat → Int32) (aM74 : Nat → Int32) (aM75 : Nat → Int32) (aM76 : Nat → Int32)  : Nat → Int32 → Int32 → (Nat → Int32) → (Nat → Int32) → (Nat → Int32) → (Nat → Int32) → Option (Int32 × Int32 × (Nat → Int32) × (Nat → Int32) × (Nat → Int32) × (Nat → Int32))
  | 0, _, _, _, _, _, _ => none
  | n + 1, x_iM73, x_iM77, x_aM72, x_aM74, x_aM75, x_aM76 => if x_iM77 ≤ 0 then (some (x_iM73, x_iM77, x_aM72, x_aM74, x_aM75, x_aM76)) else (if (x_iM77 - (1 : Int32)) < 0 ∨ 2000 ≤ ((x_iM77 - (1 : Int32))).toNatClampNeg then none else (if (x_aM74 ((x_iM77 - (1 : Int32))).toNatClampNeg) = 0 then ((f_M_putOne N ((x_aM75 ((x_iM77 - (1 : Int32))).toNatClampNeg)) ((x_aM76 ((x_iM77 - (1 : Int32))).toNatClampNeg)) x_iM73 ((x_iM77 - (1 : Int32))) aM7 aM8 aM9 aM10 aM23 aM24 aM26 aM27 x_aM72 x_aM74 x_aM75 x_aM76).bind fun q60 => (f_M_putConcept_12 N iM73 iM77 aM7 aM8 aM9 aM10 aM23 aM24 aM26 aM27 aM72 aM74 aM75 aM76 n q60.1 q60.2.1 q60.2.2.1 q60.2.2.2.1 q60.2.2.2.2.1 q60.2.2.2.2.2)) else (if (x_aM74 ((x_iM77 - (1 : Int32))).toNatClampNeg) = (1 : Int32) then ((f_M_put ((x_aM75 ((x_iM77 - (1 : Int32))).toNatClampNeg)) x_iM73 x_aM72).bind fun q89 => (f_M_putConcept_12 N iM73 iM77 aM7 aM8 aM9 aM10 aM23 aM24 aM26 aM27 aM72 aM74 aM75 aM76 n q89.1 ((x_iM77 - (1 : Int32))) q89.2 x_aM74 x_aM75 x_aM76)) else ((f_M_putWord N ((x_aM75 ((x_iM77 - (1 : Int32))).toNatClampNeg)) x_iM73 aM7 x_aM72).bind fun q105 => (f_M_putConcept_12 N iM73 iM77 aM7 aM8 aM9 aM10 aM23 aM24 aM26 aM27 aM72 aM74 aM75 aM76 n q105.1 ((x_iM77 - (1 : Int32))) q105.2 x_aM74 x_aM75 x_aM76)))))
def f_M_putConcept (N : Nat) (a1 : Int32) (iM73 : Int32) (iM77 : Int32) (aM7 : Nat → Int32) (aM8 : Nat → Int32) (aM9 : Nat → Int32) (aM10 : Nat → Int32) (aM23 : Nat → Int32) (aM24 : Nat → Int32) (aM26 : Nat → Int32) (aM27 : Nat → Int32) (aM72 : Nat → Int32) (aM74 : Nat → Int32) (aM75 : Nat → Int32) (aM76 : Nat → Int32) : Option (Int32 × Int32 × (Nat → Int32) × (Nat → Int32) × (Nat → Int32) × (Nat → Int32)) := (f_M_later ((0 : Int32)) a1 ((1 : Int32)) ((0 : Int32)) aM74 aM75 aM76).bind fun q9 => (f_M_putConcept_12 N iM73 iM77 aM7 aM8 aM9 aM10 aM23 aM24 aM26 aM27 aM72 aM74 aM75 aM76 N iM73 q9.1 aM72 q9.2.1 q9.2.2.1 q9.2.2.2)
set_option maxHeartbeats 8000000 in
set_option maxRecDepth 100000 in
theorem c_M_putConcept (l : Launch) (dC : Nat → ClassId) (dI : Nat → Nat → Nat) (cy : Nat → ClassId) (ad : Nat → Nat) (sz : Nat) (N : Nat) (a1 : Int32) (iM : Nat → Int32) (aM : Nat → Nat → Int32) (q : Int32 × Int32 × (Nat → Int32) × (Nat → Int32) × (Nat → Int32) × (Nat → Int32)) (h : f_M_putConcept N a1 (iM 73) (iM 77) (aM 7) (aM 8) (aM 9) (aM 10) (aM 23) (aM 24) (aM 26) (aM 27) (aM 72) (aM 74) (aM 75) (aM 76) = some q) : Met l yX8_putConcept wsX8_putConcept ({ frames := 3, cells := 0, slots := 0, locals := 68 } : Room) (cP (dC, dI) cy [.ref (ad 0), .int a1] (zzM ad cy iM aM) sz) (cQv (dC, dI) cy (zzM ad cy (us iM [(73, q.1), (77, q.2.1)]) (us aM [(72, q.2.2.1), (74, q.2.2.2.1), (75, q.2.2.2.2.1), (76, q.2.2.2.2.2)])) (va_A (zzM ad cy iM aM) sz)) 0 0 (va_A (zzM ad cy iM aM) sz) := by
  refine Met.ofW (cc := cX8_putConcept) (maxL := 2) (ret := none) (by decide) rfl ?_
  intro p e s m args below meth c s₁ B hml hv
  obtain ⟨hav, hsz, hP, hK, hD0, hN⟩ := hv
  have hx := B.exec
  have hb := B.bytes
  have hr := B.returns
  have hts := atoms_spec (ws := wsX8_putConcept) B.pre
  have hown : s.vm.findClass RX8 = some m.cls := findClass_of_methodNamed B.named
  have hlocks := B.notSynchronized
  subst hsz
  have hD := hD0.self (sz := s.heap.size)
  generalize hAe : va_A (zzM ad cy iM aM) s.heap.size = A at hD ⊢
  have hA : ∀ q : Nat, s.heap.size ≤ q → A q := fun q h => by rw [← hAe]; exact Or.inr h
  have hS : va_S A s.heap s.heap [] := va_S.rf
  generalize hWQ : (zzM ad cy (us iM [(73, q.1), (77, q.2.1)]) (us aM [(72, q.2.2.1), (74, q.2.2.2.1), (75, q.2.2.2.2.1), (76, q.2.2.2.2.2)])) = WQ
  generalize hQQ : MQ below (cQv (dC, dI) cy WQ A) args s 0 0 A = QQ
  have hl := lv_entry ([.ref (ad 0), .int a1] : List Value) (n := 2) (Nat.le_of_ble_eq_true rfl)
  have hfr := lg_entry_eq m ([.ref (ad 0), .int a1] : List Value) 2
  rw [← hav] at hfr
  rw [hfr]
  clear hfr hav
  generalize (lg_sl ([.ref (ad 0), .int a1] : List Value) ++ List.replicate (2 - (lg_sl ([.ref (ad 0), .int a1] : List Value)).length) Slot.unset).toArray = ls at hl ⊢
  have hl : lv_has ls 2 [(0, .ref (ad 0)), (1, .int a1)] := hl
  have kf438 := hts _ (List.mem_cons_of_mem _ m_fl_X8_438)
  have ki8 := (fun w h => List.mem_cons_of_mem _ (i_X8 w h) : ∀ w ∈ u_ws RX8 TX8 78, w ∈ wsX8_putConcept)
  have kf138 := hts _ (List.mem_cons_of_mem _ m_fl_X8_138)
  have kf141 := hts _ (List.mem_cons_of_mem _ m_fl_X8_141)
  have kf144 := hts _ (List.mem_cons_of_mem _ m_fl_X8_144)
  refine (?_ : ∀ (H : Heap) (locs : List Loc), va_P (dC, dI) vwCl (zzM ad cy iM aM) H → va_D A (zzM ad cy iM aM) → va_S A s.heap H locs → W p l e ({ frames := 3, cells := 0, slots := 0, locals := 68 } : Room) s m args below meth c H locs 0 0 QQ (F0 m 0 ls [])) s.heap [] hP hD hS
  clear hP hD hS
  have B12 : ∀ (n : Nat) (x_iM73 : Int32) (x_iM77 : Int32) (x_aM72 : Nat → Int32) (x_aM74 : Nat → Int32) (x_aM75 : Nat → Int32) (x_aM76 : Nat → Int32) (H : Heap) (locs : List Loc) (ls : Array Slot), f_M_putConcept_12 N (iM 73) (iM 77) (aM 7) (aM 8) (aM 9) (aM 10) (aM 23) (aM 24) (aM 26) (aM 27) (aM 72) (aM 74) (aM 75) (aM 76) n x_iM73 x_iM77 x_aM72 x_aM74 x_aM75 x_aM76 = some q → va_P (dC, dI) vwCl (zzM ad cy (us iM [(73, x_iM73), (77, x_iM77)]) (us aM [(72, x_aM72), (74, x_aM74), (75, x_aM75), (76, x_aM76)])) H → va_D A (zzM ad cy (us iM [(73, x_iM73), (77, x_iM77)]) (us aM [(72, x_aM72), (74, x_aM74), (75, x_aM75), (76, x_aM76)])) → va_S A s.heap H locs → lv_has ls 2 [(0, .ref (ad 0))] → W p l e ({ frames := 3, cells := 0, slots := 0, locals := 68 } : Room) s m args below meth c H locs 0 0 QQ (F0 m 12 ls []) := by
    intro n
    induction n with
    | zero =>
      intro x_iM73 x_iM77 x_aM72 x_aM74 x_aM75 x_aM76 H locs ls h hP hD hS hl
      rw [f_M_putConcept_12] at h
      cases h
    | succ n ih =>
      intro x_iM73 x_iM77 x_aM72 x_aM74 x_aM75 x_aM76 H locs ls h hP hD hS hl
      rw [f_M_putConcept_12] at h
      refine lv_aload_n hx hb dX8_putConcept_12 rfl (lv_at hl 0 rfl) ?_
      refine va_get (D := (dC, dI)) (ci := 8) (v := .int x_iM77) (C := RX8) (T := TX8) (N := 78) hx hb hts ki8 hown hK hP 0 rfl rfl 77 (by decide) kf438 (fun _ h9 => h9) rfl dX8_putConcept_13 ?_
      refine lv_if_le (tgt := 111) hx hb dX8_putConcept_16 (by decide) (fun cz => ?_) (fun cz => ?_)
      · have h := g_t h cz
        have h' := Option.some.inj h
        rw [← hQQ]
        exact W.vret hx hb hr (fun t ht hW => ⟨⟨(), rfl, trivial, by rw [← hWQ, ← h', ht]; exact hP, va_K.moved hW.alike hK⟩, hS.F ht⟩) hS.2.2 dX8_putConcept_111
      · have h := g_f h cz
        refine lv_aload_n hx hb dX8_putConcept_19 rfl (lv_at hl 0 rfl) ?_
        refine lv_dup hx hb dX8_putConcept_20 rfl ?_
        refine va_get (D := (dC, dI)) (ci := 8) (v := .int x_iM77) (C := RX8) (T := TX8) (N := 78) hx hb hts ki8 hown hK hP 0 rfl rfl 77 (by decide) kf438 (fun _ h9 => h9) rfl dX8_putConcept_21 ?_
        refine lv_iconst (v := 1) hx hb dX8_putConcept_24 (by decide) ?_
        refine lv_isub hx hb dX8_putConcept_25 ?_
        refine va_put (D := (dC, dI)) (ci := 8) (v := .int ((x_iM77 - (1 : Int32)))) (ty := .int) (C := RX8) (T := TX8) (N := 78) hx hb hts ki8 tyX8 tyX8_ok nmX8 hown hK hP hD hS 0 rfl rfl 77 (by decide) kf438 (fun _ h9 => h9) rfl (by decide +kernel) rfl rfl (Nat.le_of_ble_eq_true rfl) dX8_putConcept_26 (fun H locs hP hD hS => ?_)
        have hP : va_P (dC, dI) vwCl (zzM ad cy (us iM [(73, x_iM73), (77, (x_iM77 - (1 : Int32)))]) (us aM [(72, x_aM72), (74, x_aM74), (75, x_aM75), (76, x_aM76)])) H := Eq.mp (congrArg (fun w => va_P (dC, dI) vwCl w H) (stM_iM77 ad cy iM (us aM [(72, x_aM72), (74, x_aM74), (75, x_aM75), (76, x_aM76)]) [(73, x_iM73), (77, x_iM77)] ((x_iM77 - (1 : Int32))))) hP
        have hD : va_D A (zzM ad cy (us iM [(73, x_iM73), (77, (x_iM77 - (1 : Int32)))]) (us aM [(72, x_aM72), (74, x_aM74), (75, x_aM75), (76, x_aM76)])) := Eq.mp (congrArg (fun w => va_D A w) (stM_iM77 ad cy iM (us aM [(72, x_aM72), (74, x_aM74), (75, x_aM75), (76, x_aM76)]) [(73, x_iM73), (77, x_iM77)] ((x_iM77 - (1 : Int32))))) hD
        refine lv_aload_n hx hb dX8_putConcept_29 rfl (lv_at hl 0 rfl) ?_
        refine va_get (D := (dC, dI)) (ci := 8) (v := .ref (ad 41)) (C := RX8) (T := TX8) (N := 78) hx hb hts ki8 hown hK hP 0 rfl rfl 74 (by decide) kf138 (fun _ h9 => h9) rfl dX8_putConcept_30 ?_
        refine lv_aload_n hx hb dX8_putConcept_33 rfl (lv_at hl 0 rfl) ?_
        refine va_get (D := (dC, dI)) (ci := 8) (v := .int ((x_iM77 - (1 : Int32)))) (C := RX8) (T := TX8) (N := 78) hx hb hts ki8 hown hK hP 0 rfl rfl 77 (by decide) kf438 (fun _ h9 => h9) rfl dX8_putConcept_34 ?_
        obtain ⟨g_145, h⟩ := g_n h
        refine va_iald (f := x_aM74) hx hb hK hP 41 0 rfl rfl g_145 dX8_putConcept_37 ?_
        refine lv_if_ne (tgt := 66) hx hb dX8_putConcept_38 (by decide) (fun cz => ?_) (fun cz => ?_)
        · have h := g_f h cz
          refine lv_aload_n hx hb dX8_putConcept_66 rfl (lv_at hl 0 rfl) ?_
          refine va_get (D := (dC, dI)) (ci := 8) (v := .ref (ad 41)) (C := RX8) (T := TX8) (N := 78) hx hb hts ki8 hown hK hP 0 rfl rfl 74 (by decide) kf138 (fun _ h9 => h9) rfl dX8_putConcept_67 ?_
          refine lv_aload_n hx hb dX8_putConcept_70 rfl (lv_at hl 0 rfl) ?_
          refine va_get (D := (dC, dI)) (ci := 8) (v := .int ((x_iM77 - (1 : Int32)))) (C := RX8) (T := TX8) (N := 78) hx hb hts ki8 hown hK hP 0 rfl rfl 77 (by decide) kf438 (fun _ h9 => h9) rfl dX8_putConcept_71 ?_
          refine va_iald (f := x_aM74) hx hb hK hP 41 0 rfl rfl g_145 dX8_putConcept_74 ?_
          refine lv_iconst (v := 1) hx hb dX8_putConcept_75 (by decide) ?_
          refine lv_icmp_ne (tgt := 95) hx hb dX8_putConcept_76 (by decide) (fun cz => ?_) (fun cz => ?_)
          · have h := g_f h cz
            refine lv_aload_n hx hb dX8_putConcept_95 rfl (lv_at hl 0 rfl) ?_
            refine lv_aload_n hx hb dX8_putConcept_96 rfl (lv_at hl 0 rfl) ?_
            refine va_get (D := (dC, dI)) (ci := 8) (v := .ref (ad 42)) (C := RX8) (T := TX8) (N := 78) hx hb hts ki8 hown hK hP 0 rfl rfl 75 (by decide) kf141 (fun _ h9 => h9) rfl dX8_putConcept_97 ?_
            refine lv_aload_n hx hb dX8_putConcept_100 rfl (lv_at hl 0 rfl) ?_
            refine va_get (D := (dC, dI)) (ci := 8) (v := .int ((x_iM77 - (1 : Int32)))) (C := RX8) (T := TX8) (N := 78) hx hb hts ki8 hown hK hP 0 rfl rfl 77 (by decide) kf438 (fun _ h9 => h9) rfl dX8_putConcept_101 ?_
            refine va_iald (f := x_aM75) hx hb hK hP 42 0 rfl rfl g_145 dX8_putConcept_104 ?_
            obtain ⟨q105, e105, h⟩ := g_b h
            refine callVvs (cc := cX8_putConcept) (w1 := zzM ad cy (us iM [(73, q105.1), (77, (x_iM77 - (1 : Int32)))]) (us aM [(72, q105.2), (74, x_aM74), (75, x_aM75), (76, x_aM76)])) (As := [.int ((x_aM75 ((x_iM77 - (1 : Int32))).toNatClampNeg))]) (rest := []) ⟨hx, hb, hml, hown, hts⟩ (c_M_putWord l dC dI cy ad H.size N ((x_aM75 ((x_iM77 - (1 : Int32))).toNatClampNeg)) ((us iM [(73, x_iM73), (77, (x_iM77 - (1 : Int32)))])) ((us aM [(72, x_aM72), (74, x_aM74), (75, x_aM75), (76, x_aM76)])) q105 e105) (cwV 1 hts (goodV m_ml_X8_449 m_im_X8_putWord m_se_X8_putWord m_in_X8 m_cd_X8_putWord) rfl rfl rfl (by decide +kernel) ⟨Nat.le_of_ble_eq_true rfl, Nat.le_of_ble_eq_true rfl⟩) hN hK hP hD hS hA rfl 0 rfl rfl rfl hl.1 rfl (Nat.le_of_ble_eq_true rfl) dX8_putConcept_105 ⟨Nat.zero_le _, Nat.zero_le _⟩ (fun H locs hP hD hS => ?_)
            refine lv_goto (tgt := 12) hx hb dX8_putConcept_108 (by decide) ?_
            exact ih q105.1 ((x_iM77 - (1 : Int32))) q105.2 x_aM74 x_aM75 x_aM76 H locs ls h hP hD hS (lv_sub hl [0] rfl)
          · have h := g_t h cz
            refine lv_aload_n hx hb dX8_putConcept_79 rfl (lv_at hl 0 rfl) ?_
            refine lv_aload_n hx hb dX8_putConcept_80 rfl (lv_at hl 0 rfl) ?_
            refine va_get (D := (dC, dI)) (ci := 8) (v := .ref (ad 42)) (C := RX8) (T := TX8) (N := 78) hx hb hts ki8 hown hK hP 0 rfl rfl 75 (by decide) kf141 (fun _ h9 => h9) rfl dX8_putConcept_81 ?_
            refine lv_aload_n hx hb dX8_putConcept_84 rfl (lv_at hl 0 rfl) ?_
            refine va_get (D := (dC, dI)) (ci := 8) (v := .int ((x_iM77 - (1 : Int32)))) (C := RX8) (T := TX8) (N := 78) hx hb hts ki8 hown hK hP 0 rfl rfl 77 (by decide) kf438 (fun _ h9 => h9) rfl dX8_putConcept_85 ?_
            refine va_iald (f := x_aM75) hx hb hK hP 42 0 rfl rfl g_145 dX8_putConcept_88 ?_
            obtain ⟨q89, e89, h⟩ := g_b h
            refine callVvs (cc := cX8_putConcept) (w1 := zzM ad cy (us iM [(73, q89.1), (77, (x_iM77 - (1 : Int32)))]) (us aM [(72, q89.2), (74, x_aM74), (75, x_aM75), (76, x_aM76)])) (As := [.int ((x_aM75 ((x_iM77 - (1 : Int32))).toNatClampNeg))]) (rest := []) ⟨hx, hb, hml, hown, hts⟩ (c_M_put l dC dI cy ad H.size ((x_aM75 ((x_iM77 - (1 : Int32))).toNatClampNeg)) ((us iM [(73, x_iM73), (77, (x_iM77 - (1 : Int32)))])) ((us aM [(72, x_aM72), (74, x_aM74), (75, x_aM75), (76, x_aM76)])) q89 e89) (cwV 1 hts (goodV m_ml_X8_441 m_im_X8_put m_se_X8_put m_in_X8 m_cd_X8_put) rfl rfl rfl (by decide +kernel) ⟨Nat.le_of_ble_eq_true rfl, Nat.le_of_ble_eq_true rfl⟩) hN hK hP hD hS hA rfl 0 rfl rfl rfl hl.1 rfl (Nat.le_of_ble_eq_true rfl) dX8_putConcept_89 ⟨Nat.zero_le _, Nat.zero_le _⟩ (fun H locs hP hD hS => ?_)
            refine lv_goto (tgt := 12) hx hb dX8_putConcept_92 (by decide) ?_
            exact ih q89.1 ((x_iM77 - (1 : Int32))) q89.2 x_aM74 x_aM75 x_aM76 H locs ls h hP hD hS (lv_sub hl [0] rfl)
        · have h := g_t h cz
          refine lv_aload_n hx hb dX8_putConcept_41 rfl (lv_at hl 0 rfl) ?_
          refine lv_aload_n hx hb dX8_putConcept_42 rfl (lv_at hl 0 rfl) ?_
          refine va_get (D := (dC, dI)) (ci := 8) (v := .ref (ad 42)) (C := RX8) (T := TX8) (N := 78) hx hb hts ki8 hown hK hP 0 rfl rfl 75 (by decide) kf141 (fun _ h9 => h9) rfl dX8_putConcept_43 ?_
          refine lv_aload_n hx hb dX8_putConcept_46 rfl (lv_at hl 0 rfl) ?_
          refine va_get (D := (dC, dI)) (ci := 8) (v := .int ((x_iM77 - (1 : Int32)))) (C := RX8) (T := TX8) (N := 78) hx hb hts ki8 hown hK hP 0 rfl rfl 77 (by decide) kf438 (fun _ h9 => h9) rfl dX8_putConcept_47 ?_
          refine va_iald (f := x_aM75) hx hb hK hP 42 0 rfl rfl g_145 dX8_putConcept_50 ?_
          refine lv_aload_n hx hb dX8_putConcept_51 rfl (lv_at hl 0 rfl) ?_
          refine va_get (D := (dC, dI)) (ci := 8) (v := .ref (ad 43)) (C := RX8) (T := TX8) (N := 78) hx hb hts ki8 hown hK hP 0 rfl rfl 76 (by decide) kf144 (fun _ h9 => h9) rfl dX8_putConcept_52 ?_
          refine lv_aload_n hx hb dX8_putConcept_55 rfl (lv_at hl 0 rfl) ?_
          refine va_get (D := (dC, dI)) (ci := 8) (v := .int ((x_iM77 - (1 : Int32)))) (C := RX8) (T := TX8) (N := 78) hx hb hts ki8 hown hK hP 0 rfl rfl 77 (by decide) kf438 (fun _ h9 => h9) rfl dX8_putConcept_56 ?_
          refine va_iald (f := x_aM76) hx hb hK hP 43 0 rfl rfl g_145 dX8_putConcept_59 ?_
          obtain ⟨q60, e60, h⟩ := g_b h
          refine callVvs (cc := cX8_putConcept) (w1 := zzM ad cy (us iM [(73, q60.1), (77, q60.2.1)]) (us aM [(72, q60.2.2.1), (74, q60.2.2.2.1), (75, q60.2.2.2.2.1), (76, q60.2.2.2.2.2)])) (As := [.int ((x_aM75 ((x_iM77 - (1 : Int32))).toNatClampNeg)), .int ((x_aM76 ((x_iM77 - (1 : Int32))).toNatClampNeg))]) (rest := []) ⟨hx, hb, hml, hown, hts⟩ (c_M_putOne l dC dI cy ad H.size N ((x_aM75 ((x_iM77 - (1 : Int32))).toNatClampNeg)) ((x_aM76 ((x_iM77 - (1 : Int32))).toNatClampNeg)) ((us iM [(73, x_iM73), (77, (x_iM77 - (1 : Int32)))])) ((us aM [(72, x_aM72), (74, x_aM74), (75, x_aM75), (76, x_aM76)])) q60 e60) (cwV 2 hts (goodV m_ml_X8_455 m_im_X8_putOne m_se_X8_putOne m_in_X8 m_cd_X8_putOne) rfl rfl rfl (by decide +kernel) ⟨Nat.le_of_ble_eq_true rfl, Nat.le_of_ble_eq_true rfl⟩) hN hK hP hD hS hA rfl 0 rfl rfl rfl hl.1 rfl (Nat.le_of_ble_eq_true rfl) dX8_putConcept_60 ⟨Nat.zero_le _, Nat.zero_le _⟩ (fun H locs hP hD hS => ?_)
          refine lv_goto (tgt := 12) hx hb dX8_putConcept_63 (by decide) ?_
          exact ih q60.1 q60.2.1 q60.2.2.1 q60.2.2.2.1 q60.2.2.2.2.1 q60.2.2.2.2.2 H locs ls h hP hD hS (lv_sub hl [0] rfl)
  intro H locs hP hD hS
  unfold f_M_putConcept at h
  refine lv_aload_n hx hb dX8_putConcept_0 rfl (lv_at hl 0 rfl) ?_
  refine lv_iconst (v := 0) hx hb dX8_putConcept_1 (by decide) ?_
  refine va_put (D := (dC, dI)) (ci := 8) (v := .int ((0 : Int32))) (ty := .int) (C := RX8) (T := TX8) (N := 78) hx hb hts ki8 tyX8 tyX8_ok nmX8 hown hK hP hD hS 0 rfl rfl 77 (by decide) kf438 (fun _ h9 => h9) rfl (by decide +kernel) rfl rfl (Nat.le_of_ble_eq_true rfl) dX8_putConcept_2 (fun H locs hP hD hS => ?_)
  have hP : va_P (dC, dI) vwCl (zzM ad cy (us iM [(77, (0 : Int32))]) aM) H := Eq.mp (congrArg (fun w => va_P (dC, dI) vwCl w H) (sfM_iM77 ad cy iM aM ((0 : Int32)))) hP
  have hD : va_D A (zzM ad cy (us iM [(77, (0 : Int32))]) aM) := Eq.mp (congrArg (fun w => va_D A w) (sfM_iM77 ad cy iM aM ((0 : Int32)))) hD
  refine lv_aload_n hx hb dX8_putConcept_5 rfl (lv_at hl 0 rfl) ?_
  refine lv_iconst (v := 0) hx hb dX8_putConcept_6 (by decide) ?_
  refine lv_iload_n hx hb dX8_putConcept_7 rfl (lv_at hl 1 rfl) ?_
  refine lv_iconst (v := 1) hx hb dX8_putConcept_8 (by decide) ?_
  obtain ⟨q9, e9, h⟩ := g_b h
  refine callVvs (cc := cX8_putConcept) (w1 := zzM ad cy (us iM [(77, q9.1)]) (us aM [(74, q9.2.1), (75, q9.2.2.1), (76, q9.2.2.2)])) (As := [.int ((0 : Int32)), .int a1, .int ((1 : Int32))]) (rest := []) ⟨hx, hb, hml, hown, hts⟩ (c_M_later l dC dI cy ad H.size ((0 : Int32)) a1 ((1 : Int32)) ((us iM [(77, (0 : Int32))])) aM q9 e9) (cwV 3 hts (goodV m_ml_X8_443 m_im_X8_later m_se_X8_later m_in_X8 m_cd_X8_later) rfl rfl rfl (by decide +kernel) ⟨Nat.le_of_ble_eq_true rfl, Nat.le_of_ble_eq_true rfl⟩) hN hK hP hD hS hA rfl 0 rfl rfl rfl hl.1 rfl (Nat.le_of_ble_eq_true rfl) dX8_putConcept_9 ⟨Nat.zero_le _, Nat.zero_le _⟩ (fun H locs hP hD hS => ?_)
  exact B12 N (iM 73) q9.1 (aM 72) q9.2.1 q9.2.2.1 q9.2.2.2 H locs ls h hP hD hS (lv_sub hl [0] rfl)
