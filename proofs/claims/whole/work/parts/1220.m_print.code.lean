def f_M_print_167 (N : Nat) (iM18 : Int32) (iM37 : Int32) (iM73 : Int32) (iM77 : Int32) (aM7 : Nat → Int32) (aM8 : Nat → Int32) (aM9 : Nat → Int32) (aM10 : Nat → Int32) (aM15 : Nat → Int32) (aM16 : Nat → Int32) (aM17 : Nat → Int32) (aM23 : Nat → Int32) (aM24 : Nat → Int32) (aM26 : Nat → Int32) (aM27 : Nat → Int32) (aM72 : Nat → Int32) (aM74 : Nat → Int32) (aM75 : Nat → Int32) (aM76 : Nat → Int32) (k17 : Int32 → Int32 → Int32 → (Nat → Int32) → (Nat → Int32) → (Nat → Int32) → (Nat → Int32) → Option (Int32 × Int32 × Int32 × (Nat → Int32) × (Nat → Int32) × (Nat → Int32) × (Nat → Int32))) (v1 : Int32) (x_iM73 : Int32) (x_iM77 : Int32) (x_aM72 : Nat → Int32) (x_aM74 : Nat → Int32) (x_aM75 : Nat → Int32) (x_aM76 : Nat → Int32) : Option (Int32 × Int32 × Int32 × (Nat → Int32) × (Nat → Int32) × (Nat → Int32) × (Nat → Int32)) := (f_M_put ((59 : Int32)) x_iM73 x_aM72).bind fun q170 => ((f_M_put ((10 : Int32)) q170.1 q170.2).bind fun q176 => (k17 ((v1 + (1 : Int32))) q176.1 x_iM77 q176.2 x_aM74 x_aM75 x_aM76))
def f_M_print_68 (N : Nat) (iM18 : Int32) (iM37 : Int32) (iM73 : Int32) (iM77 : Int32) (aM7 : Nat → Int32) (aM8 : Nat → Int32) (aM9 : Nat → Int32) (aM10 : Nat → Int32) (aM15 : Nat → Int32) (aM16 : Nat → Int32) (aM17 : Nat → Int32) (aM23 : Nat → Int32) (aM24 : Nat → Int32) (aM26 : Nat → Int32) (aM27 : Nat → Int32) (aM72 : Nat → Int32) (aM74 : Nat → Int32) (aM75 : Nat → Int32) (aM76 : Nat → Int32) (k17 : Int32 → Int32 → Int32 → (Nat → Int32) → (Nat → Int32) → (Nat → Int32) → (Nat → Int32) → Option (Int32 × Int32 × Int32 × (Nat → Int32) × (Nat → Int32) × (Nat → Int32) × (Nat → Int32))) (v1 : Int32) (s1 : Int32) (x_iM73 : Int32) (x_iM77 : Int32) (x_aM72 : Nat → Int32) (x_aM74 : Nat → Int32) (x_aM75 : Nat → Int32) (x_aM76 : Nat → Int32) : Option (Int32 × Int32 × Int32 × (Nat → Int32) × (Nat → Int32) × (Nat → Int32) × (Nat → Int32)) := (f_M_put s1 x_iM73 x_aM72).bind fun q68 => ((f_M_put ((32 : Int32)) q68.1 q68.2).bind fun q74 => (if v1 < 0 ∨ 500 ≤ v1.toNatClampNeg then none else ((f_M_putConcept N ((aM17 v1.toNatClampNeg)) q74.1 x_iM77 aM7 aM8 aM9 aM10 aM23 aM24 aM26 aM27 q74.2 x_aM74 x_aM75 x_aM76).bind fun q84 => (f_M_print_167 N iM18 iM37 iM73 iM77 aM7 aM8 aM9 aM10 aM15 aM16 aM17 aM23 aM24 aM26 aM27 aM72 aM74 aM75 aM76 k17 v1 q84.1 q84.2.1 q84.2.2.1 q84.2.2.2.1 q84.2.2.2.2.1 q84.2.2.2.2.2))))
def f_M_print_141 (N : Nat) (iM18 : Int32) (iM37 : Int32) (iM73 : Int32) (iM77 : Int32) (aM7 : Nat → Int32) (aM8 : Nat → Int32) (aM9 : Nat → Int32) (aM10 : Nat → Int32) (aM15 : Nat → Int32) (aM16 : Nat → Int32) (aM17 : Nat → Int32) (aM23 : Nat → Int32) (aM24 : Nat → Int32) (aM26 : Nat → Int32) (aM27 : Nat → Int32) (aM72 : Nat → Int32) (aM74 : Nat → Int32) (aM75 : Nat → Int32) (aM76 : Nat → Int32) (k17 : Int32 → Int32 → Int32 → (Nat → Int32) → (Nat → Int32) → (Nat → Int32) → (Nat → Int32) → Option (Int32 × Int32 × Int32 × (Nat → Int32) × (Nat → Int32) × (Nat → Int32) × (Nat → Int32))) (v1 : Int32) (x_iM73 : Int32) (x_iM77 : Int32) (x_aM72 : Nat → Int32) (x_aM74 : Nat → Int32) (x_aM75 : Nat → Int32) (x_aM76 : Nat → Int32) : Option (Int32 × Int32 × Int32 × (Nat → Int32) × (Nat → Int32) × (Nat → Int32) × (Nat → Int32)) := if v1 < 0 ∨ 500 ≤ v1.toNatClampNeg then none else (if (aM15 v1.toNatClampNeg) = (3 : Int32) then ((f_M_put ((32 : Int32)) x_iM73 x_aM72).bind fun q154 => ((f_M_putRole N ((aM17 v1.toNatClampNeg)) q154.1 aM26 aM27 q154.2).bind fun q164 => (f_M_print_167 N iM18 iM37 iM73 iM77 aM7 aM8 aM9 aM10 aM15 aM16 aM17 aM23 aM24 aM26 aM27 aM72 aM74 aM75 aM76 k17 v1 q164.1 x_iM77 q164.2 x_aM74 x_aM75 x_aM76))) else (f_M_print_167 N iM18 iM37 iM73 iM77 aM7 aM8 aM9 aM10 aM15 aM16 aM17 aM23 aM24 aM26 aM27 aM72 aM74 aM75 aM76 k17 v1 x_iM73 x_iM77 x_aM72 x_aM74 x_aM75 x_aM76))
def f_M_print_17 (N : Nat) (iM18 : Int32) (iM37 : Int32) (iM73 : Int32) (iM77 : Int32) (aM7 : Nat → Int32) (aM8 : Nat → Int32) (aM9 : Nat → Int32) (aM10 : Nat → Int32) (aM15 : Nat → Int32) (aM16 : Nat → Int32) (aM17 : Nat → Int32) (aM23 : Nat → Int32) (aM24 : Nat → Int32) (aM26 : Nat → Int32) (aM27 : Nat → Int32) (aM72 : Nat → Int32) (aM74 : Nat → Int32) (aM75 : Nat → Int32) (aM76 : Nat → Int32)  : Nat → Int32 → Int32 → Int32 → (Nat → Int32) → (Nat → Int32) → (Nat → Int32) → (Nat → Int32) → Option (Int32 × Int32 × Int32 × (Nat → Int32) × (Nat → Int32) × (Nat → Int32) × (Nat → Int32))
  | 0, _, _, _, _, _, _, _ => none
  | n + 1, v1, x_iM73, x_iM77, x_aM72, x_aM74, x_aM75, x_aM76 => if iM18 ≤ v1 then (some (x_iM73, x_iM73, x_iM77, x_aM72, x_aM74, x_aM75, x_aM76)) else (if v1 < 0 ∨ 500 ≤ v1.toNatClampNeg then none else (if (2 : Int32) ≤ (aM15 v1.toNatClampNeg) then ((f_M_putWord N (((aM15 v1.toNatClampNeg) - (2 : Int32))) x_iM73 aM7 x_aM72).bind fun q99 => ((f_M_put ((32 : Int32)) q99.1 q99.2).bind fun q105 => (if (aM15 v1.toNatClampNeg) = (2 : Int32) then ((f_M_putConcept N ((aM16 v1.toNatClampNeg)) q105.1 x_iM77 aM7 aM8 aM9 aM10 aM23 aM24 aM26 aM27 q105.2 x_aM74 x_aM75 x_aM76).bind fun q125 => (f_M_print_141 N iM18 iM37 iM73 iM77 aM7 aM8 aM9 aM10 aM15 aM16 aM17 aM23 aM24 aM26 aM27 aM72 aM74 aM75 aM76 (f_M_print_17 N iM18 iM37 iM73 iM77 aM7 aM8 aM9 aM10 aM15 aM16 aM17 aM23 aM24 aM26 aM27 aM72 aM74 aM75 aM76 n) v1 q125.1 q125.2.1 q125.2.2.1 q125.2.2.2.1 q125.2.2.2.2.1 q125.2.2.2.2.2)) else ((f_M_putRole N ((aM16 v1.toNatClampNeg)) q105.1 aM26 aM27 q105.2).bind fun q138 => (f_M_print_141 N iM18 iM37 iM73 iM77 aM7 aM8 aM9 aM10 aM15 aM16 aM17 aM23 aM24 aM26 aM27 aM72 aM74 aM75 aM76 (f_M_print_17 N iM18 iM37 iM73 iM77 aM7 aM8 aM9 aM10 aM15 aM16 aM17 aM23 aM24 aM26 aM27 aM72 aM74 aM75 aM76 n) v1 q138.1 x_iM77 q138.2 x_aM74 x_aM75 x_aM76))))) else ((f_M_putConcept N ((aM16 v1.toNatClampNeg)) x_iM73 x_iM77 aM7 aM8 aM9 aM10 aM23 aM24 aM26 aM27 x_aM72 x_aM74 x_aM75 x_aM76).bind fun q42 => ((f_M_put ((32 : Int32)) q42.1 q42.2.2.1).bind fun q48 => (if (aM15 v1.toNatClampNeg) = 0 then (f_M_print_68 N iM18 iM37 iM73 iM77 aM7 aM8 aM9 aM10 aM15 aM16 aM17 aM23 aM24 aM26 aM27 aM72 aM74 aM75 aM76 (f_M_print_17 N iM18 iM37 iM73 iM77 aM7 aM8 aM9 aM10 aM15 aM16 aM17 aM23 aM24 aM26 aM27 aM72 aM74 aM75 aM76 n) v1 ((60 : Int32)) q48.1 q42.2.1 q48.2 q42.2.2.2.1 q42.2.2.2.2.1 q42.2.2.2.2.2) else (f_M_print_68 N iM18 iM37 iM73 iM77 aM7 aM8 aM9 aM10 aM15 aM16 aM17 aM23 aM24 aM26 aM27 aM72 aM74 aM75 aM76 (f_M_print_17 N iM18 iM37 iM73 iM77 aM7 aM8 aM9 aM10 aM15 aM16 aM17 aM23 aM24 aM26 aM27 aM72 aM74 aM75 aM76 n) v1 ((61 : Int32)) q48.1 q42.2.1 q48.2 q42.2.2.2.1 q42.2.2.2.2.1 q42.2.2.2.2.2))))))
def f_M_print (N : Nat) (iM18 : Int32) (iM37 : Int32) (iM73 : Int32) (iM77 : Int32) (aM7 : Nat → Int32) (aM8 : Nat → Int32) (aM9 : Nat → Int32) (aM10 : Nat → Int32) (aM15 : Nat → Int32) (aM16 : Nat → Int32) (aM17 : Nat → Int32) (aM23 : Nat → Int32) (aM24 : Nat → Int32) (aM26 : Nat → Int32) (aM27 : Nat → Int32) (aM72 : Nat → Int32) (aM74 : Nat → Int32) (aM75 : Nat → Int32) (aM76 : Nat → Int32) : Option (Int32 × Int32 × Int32 × (Nat → Int32) × (Nat → Int32) × (Nat → Int32) × (Nat → Int32)) := if iM37 = 0 then (some ((-101 : Int32), iM73, iM77, aM72, aM74, aM75, aM76)) else (f_M_print_17 N iM18 iM37 iM73 iM77 aM7 aM8 aM9 aM10 aM15 aM16 aM17 aM23 aM24 aM26 aM27 aM72 aM74 aM75 aM76 N ((0 : Int32)) ((0 : Int32)) iM77 aM72 aM74 aM75 aM76)
set_option maxHeartbeats 8000000 in
set_option maxRecDepth 100000 in
theorem c_M_print (l : Launch) (dC : Nat → ClassId) (dI : Nat → Nat → Nat) (cy : Nat → ClassId) (ad : Nat → Nat) (sz : Nat) (N : Nat) (iM : Nat → Int32) (aM : Nat → Nat → Int32) (q : Int32 × Int32 × Int32 × (Nat → Int32) × (Nat → Int32) × (Nat → Int32) × (Nat → Int32)) (h : f_M_print N (iM 18) (iM 37) (iM 73) (iM 77) (aM 7) (aM 8) (aM 9) (aM 10) (aM 15) (aM 16) (aM 17) (aM 23) (aM 24) (aM 26) (aM 27) (aM 72) (aM 74) (aM 75) (aM 76) = some q) : Met l yX8_print wsX8_print ({ frames := 4, cells := 0, slots := 0, locals := 89 } : Room) (cP (dC, dI) cy [.ref (ad 0)] (zzM ad cy iM aM) sz) (cQi (dC, dI) cy q.1 (zzM ad cy (us iM [(73, q.2.1), (77, q.2.2.1)]) (us aM [(72, q.2.2.2.1), (74, q.2.2.2.2.1), (75, q.2.2.2.2.2.1), (76, q.2.2.2.2.2.2)])) (va_A (zzM ad cy iM aM) sz)) 0 0 (va_A (zzM ad cy iM aM) sz) := by
  refine Met.ofW (cc := cX8_print) (maxL := 2) (ret := (some .int)) (by decide) rfl ?_
  intro p e s m args below meth c s₁ B hml hv
  obtain ⟨hav, hsz, hP, hK, hD0, hN⟩ := hv
  have hx := B.exec
  have hb := B.bytes
  have hr := B.returns
  have hts := atoms_spec (ws := wsX8_print) B.pre
  have hown : s.vm.findClass RX8 = some m.cls := findClass_of_methodNamed B.named
  have hlocks := B.notSynchronized
  subst hsz
  have hD := hD0.self (sz := s.heap.size)
  generalize hAe : va_A (zzM ad cy iM aM) s.heap.size = A at hD ⊢
  have hA : ∀ q : Nat, s.heap.size ≤ q → A q := fun q h => by rw [← hAe]; exact Or.inr h
  have hS : va_S A s.heap s.heap [] := va_S.rf
  generalize hWQ : (zzM ad cy (us iM [(73, q.2.1), (77, q.2.2.1)]) (us aM [(72, q.2.2.2.1), (74, q.2.2.2.2.1), (75, q.2.2.2.2.2.1), (76, q.2.2.2.2.2.2)])) = WQ
  generalize hQQ : MQ below (cQi (dC, dI) cy q.1 WQ A) args s 0 0 A = QQ
  have hl := lv_entry ([.ref (ad 0)] : List Value) (n := 2) (Nat.le_of_ble_eq_true rfl)
  have hfr := lg_entry_eq m ([.ref (ad 0)] : List Value) 2
  rw [← hav] at hfr
  rw [hfr]
  clear hfr hav
  generalize (lg_sl ([.ref (ad 0)] : List Value) ++ List.replicate (2 - (lg_sl ([.ref (ad 0)] : List Value)).length) Slot.unset).toArray = ls at hl ⊢
  have hl : lv_has ls 2 [(0, .ref (ad 0))] := hl
  have kf42 := hts _ (List.mem_cons_of_mem _ m_fl_X8_42)
  have ki8 := (fun w h => List.mem_cons_of_mem _ (i_X8 w h) : ∀ w ∈ u_ws RX8 TX8 78, w ∈ wsX8_print)
  have kf36 := hts _ (List.mem_cons_of_mem _ m_fl_X8_36)
  have kf338 := hts _ (List.mem_cons_of_mem _ m_fl_X8_338)
  have kf402 := hts _ (List.mem_cons_of_mem _ m_fl_X8_402)
  have kf39 := hts _ (List.mem_cons_of_mem _ m_fl_X8_39)
  have kf356 := hts _ (List.mem_cons_of_mem _ m_fl_X8_356)
  refine (?_ : ∀ (H : Heap) (locs : List Loc), va_P (dC, dI) vwCl (zzM ad cy iM aM) H → va_D A (zzM ad cy iM aM) → va_S A s.heap H locs → W p l e ({ frames := 4, cells := 0, slots := 0, locals := 89 } : Room) s m args below meth c H locs 0 0 QQ (F0 m 0 ls [])) s.heap [] hP hD hS
  clear hP hD hS
  have B167 : ∀ (v1 : Int32) (x_iM73 : Int32) (x_iM77 : Int32) (x_aM72 : Nat → Int32) (x_aM74 : Nat → Int32) (x_aM75 : Nat → Int32) (x_aM76 : Nat → Int32) (k17 : Int32 → Int32 → Int32 → (Nat → Int32) → (Nat → Int32) → (Nat → Int32) → (Nat → Int32) → Option (Int32 × Int32 × Int32 × (Nat → Int32) × (Nat → Int32) × (Nat → Int32) × (Nat → Int32))) (hk17 : ∀ (v1' : Int32) (x_iM73' : Int32) (x_iM77' : Int32) (x_aM72' : Nat → Int32) (x_aM74' : Nat → Int32) (x_aM75' : Nat → Int32) (x_aM76' : Nat → Int32) (H : Heap) (locs : List Loc) (ls : Array Slot), k17 v1' x_iM73' x_iM77' x_aM72' x_aM74' x_aM75' x_aM76' = some q → va_P (dC, dI) vwCl (zzM ad cy (us iM [(73, x_iM73'), (77, x_iM77')]) (us aM [(72, x_aM72'), (74, x_aM74'), (75, x_aM75'), (76, x_aM76')])) H → va_D A (zzM ad cy (us iM [(73, x_iM73'), (77, x_iM77')]) (us aM [(72, x_aM72'), (74, x_aM74'), (75, x_aM75'), (76, x_aM76')])) → va_S A s.heap H locs → lv_has ls 2 [(0, .ref (ad 0)), (1, .int v1')] → W p l e ({ frames := 4, cells := 0, slots := 0, locals := 89 } : Room) s m args below meth c H locs 0 0 QQ (F0 m 17 ls [])) (H : Heap) (locs : List Loc) (ls : Array Slot), f_M_print_167 N (iM 18) (iM 37) (iM 73) (iM 77) (aM 7) (aM 8) (aM 9) (aM 10) (aM 15) (aM 16) (aM 17) (aM 23) (aM 24) (aM 26) (aM 27) (aM 72) (aM 74) (aM 75) (aM 76) k17 v1 x_iM73 x_iM77 x_aM72 x_aM74 x_aM75 x_aM76 = some q → va_P (dC, dI) vwCl (zzM ad cy (us iM [(73, x_iM73), (77, x_iM77)]) (us aM [(72, x_aM72), (74, x_aM74), (75, x_aM75), (76, x_aM76)])) H → va_D A (zzM ad cy (us iM [(73, x_iM73), (77, x_iM77)]) (us aM [(72, x_aM72), (74, x_aM74), (75, x_aM75), (76, x_aM76)])) → va_S A s.heap H locs → lv_has ls 2 [(0, .ref (ad 0)), (1, .int v1)] → W p l e ({ frames := 4, cells := 0, slots := 0, locals := 89 } : Room) s m args below meth c H locs 0 0 QQ (F0 m 167 ls []) := by
    intro v1 x_iM73 x_iM77 x_aM72 x_aM74 x_aM75 x_aM76 k17 hk17 H locs ls h hP hD hS hl
    unfold f_M_print_167 at h
    refine lv_aload_n hx hb dX8_print_167 rfl (lv_at hl 0 rfl) ?_
    refine lv_bipush (v := 59) hx hb dX8_print_168 (by decide) ?_
    obtain ⟨q170, e170, h⟩ := g_b h
    refine callVvs (cc := cX8_print) (w1 := zzM ad cy (us iM [(73, q170.1), (77, x_iM77)]) (us aM [(72, q170.2), (74, x_aM74), (75, x_aM75), (76, x_aM76)])) (As := [.int ((59 : Int32))]) (rest := []) ⟨hx, hb, hml, hown, hts⟩ (c_M_put l dC dI cy ad H.size ((59 : Int32)) ((us iM [(73, x_iM73), (77, x_iM77)])) ((us aM [(72, x_aM72), (74, x_aM74), (75, x_aM75), (76, x_aM76)])) q170 e170) (cwV 1 hts (goodV m_ml_X8_441 m_im_X8_put m_se_X8_put m_in_X8 m_cd_X8_put) rfl rfl rfl (by decide +kernel) ⟨Nat.le_of_ble_eq_true rfl, Nat.le_of_ble_eq_true rfl⟩) hN hK hP hD hS hA rfl 0 rfl rfl rfl hl.1 rfl (Nat.le_of_ble_eq_true rfl) dX8_print_170 ⟨Nat.zero_le _, Nat.zero_le _⟩ (fun H locs hP hD hS => ?_)
    refine lv_aload_n hx hb dX8_print_173 rfl (lv_at hl 0 rfl) ?_
    refine lv_bipush (v := 10) hx hb dX8_print_174 (by decide) ?_
    obtain ⟨q176, e176, h⟩ := g_b h
    refine callVvs (cc := cX8_print) (w1 := zzM ad cy (us iM [(73, q176.1), (77, x_iM77)]) (us aM [(72, q176.2), (74, x_aM74), (75, x_aM75), (76, x_aM76)])) (As := [.int ((10 : Int32))]) (rest := []) ⟨hx, hb, hml, hown, hts⟩ (c_M_put l dC dI cy ad H.size ((10 : Int32)) ((us iM [(73, q170.1), (77, x_iM77)])) ((us aM [(72, q170.2), (74, x_aM74), (75, x_aM75), (76, x_aM76)])) q176 e176) (cwV 1 hts (goodV m_ml_X8_441 m_im_X8_put m_se_X8_put m_in_X8 m_cd_X8_put) rfl rfl rfl (by decide +kernel) ⟨Nat.le_of_ble_eq_true rfl, Nat.le_of_ble_eq_true rfl⟩) hN hK hP hD hS hA rfl 0 rfl rfl rfl hl.1 rfl (Nat.le_of_ble_eq_true rfl) dX8_print_176 ⟨Nat.zero_le _, Nat.zero_le _⟩ (fun H locs hP hD hS => ?_)
    refine lv_iinc (v := (v1 + (1 : Int32))) (lv' := [(1, .int ((v1 + (1 : Int32)))), (0, .ref (ad 0))]) hx hb dX8_print_179 hl (k := 1) rfl rfl (by decide) rfl (fun ls hl => ?_)
    refine lv_goto (tgt := 17) hx hb dX8_print_182 (by decide) ?_
    exact hk17 ((v1 + (1 : Int32))) q176.1 x_iM77 q176.2 x_aM74 x_aM75 x_aM76 H locs ls h hP hD hS (lv_sub hl [1, 0] rfl)
  have B68 : ∀ (v1 : Int32) (s1 : Int32) (x_iM73 : Int32) (x_iM77 : Int32) (x_aM72 : Nat → Int32) (x_aM74 : Nat → Int32) (x_aM75 : Nat → Int32) (x_aM76 : Nat → Int32) (k17 : Int32 → Int32 → Int32 → (Nat → Int32) → (Nat → Int32) → (Nat → Int32) → (Nat → Int32) → Option (Int32 × Int32 × Int32 × (Nat → Int32) × (Nat → Int32) × (Nat → Int32) × (Nat → Int32))) (hk17 : ∀ (v1' : Int32) (x_iM73' : Int32) (x_iM77' : Int32) (x_aM72' : Nat → Int32) (x_aM74' : Nat → Int32) (x_aM75' : Nat → Int32) (x_aM76' : Nat → Int32) (H : Heap) (locs : List Loc) (ls : Array Slot), k17 v1' x_iM73' x_iM77' x_aM72' x_aM74' x_aM75' x_aM76' = some q → va_P (dC, dI) vwCl (zzM ad cy (us iM [(73, x_iM73'), (77, x_iM77')]) (us aM [(72, x_aM72'), (74, x_aM74'), (75, x_aM75'), (76, x_aM76')])) H → va_D A (zzM ad cy (us iM [(73, x_iM73'), (77, x_iM77')]) (us aM [(72, x_aM72'), (74, x_aM74'), (75, x_aM75'), (76, x_aM76')])) → va_S A s.heap H locs → lv_has ls 2 [(0, .ref (ad 0)), (1, .int v1')] → W p l e ({ frames := 4, cells := 0, slots := 0, locals := 89 } : Room) s m args below meth c H locs 0 0 QQ (F0 m 17 ls [])) (H : Heap) (locs : List Loc) (ls : Array Slot), f_M_print_68 N (iM 18) (iM 37) (iM 73) (iM 77) (aM 7) (aM 8) (aM 9) (aM 10) (aM 15) (aM 16) (aM 17) (aM 23) (aM 24) (aM 26) (aM 27) (aM 72) (aM 74) (aM 75) (aM 76) k17 v1 s1 x_iM73 x_iM77 x_aM72 x_aM74 x_aM75 x_aM76 = some q → va_P (dC, dI) vwCl (zzM ad cy (us iM [(73, x_iM73), (77, x_iM77)]) (us aM [(72, x_aM72), (74, x_aM74), (75, x_aM75), (76, x_aM76)])) H → va_D A (zzM ad cy (us iM [(73, x_iM73), (77, x_iM77)]) (us aM [(72, x_aM72), (74, x_aM74), (75, x_aM75), (76, x_aM76)])) → va_S A s.heap H locs → lv_has ls 2 [(0, .ref (ad 0)), (1, .int v1)] → W p l e ({ frames := 4, cells := 0, slots := 0, locals := 89 } : Room) s m args below meth c H locs 0 0 QQ (F0 m 68 ls [.int s1, .ref (ad 0)]) := by
    intro v1 s1 x_iM73 x_iM77 x_aM72 x_aM74 x_aM75 x_aM76 k17 hk17 H locs ls h hP hD hS hl
    unfold f_M_print_68 at h
    obtain ⟨q68, e68, h⟩ := g_b h
    refine callVvs (cc := cX8_print) (w1 := zzM ad cy (us iM [(73, q68.1), (77, x_iM77)]) (us aM [(72, q68.2), (74, x_aM74), (75, x_aM75), (76, x_aM76)])) (As := [.int s1]) (rest := []) ⟨hx, hb, hml, hown, hts⟩ (c_M_put l dC dI cy ad H.size s1 ((us iM [(73, x_iM73), (77, x_iM77)])) ((us aM [(72, x_aM72), (74, x_aM74), (75, x_aM75), (76, x_aM76)])) q68 e68) (cwV 1 hts (goodV m_ml_X8_441 m_im_X8_put m_se_X8_put m_in_X8 m_cd_X8_put) rfl rfl rfl (by decide +kernel) ⟨Nat.le_of_ble_eq_true rfl, Nat.le_of_ble_eq_true rfl⟩) hN hK hP hD hS hA rfl 0 rfl rfl rfl hl.1 rfl (Nat.le_of_ble_eq_true rfl) dX8_print_68 ⟨Nat.zero_le _, Nat.zero_le _⟩ (fun H locs hP hD hS => ?_)
    refine lv_aload_n hx hb dX8_print_71 rfl (lv_at hl 0 rfl) ?_
    refine lv_bipush (v := 32) hx hb dX8_print_72 (by decide) ?_
    obtain ⟨q74, e74, h⟩ := g_b h
    refine callVvs (cc := cX8_print) (w1 := zzM ad cy (us iM [(73, q74.1), (77, x_iM77)]) (us aM [(72, q74.2), (74, x_aM74), (75, x_aM75), (76, x_aM76)])) (As := [.int ((32 : Int32))]) (rest := []) ⟨hx, hb, hml, hown, hts⟩ (c_M_put l dC dI cy ad H.size ((32 : Int32)) ((us iM [(73, q68.1), (77, x_iM77)])) ((us aM [(72, q68.2), (74, x_aM74), (75, x_aM75), (76, x_aM76)])) q74 e74) (cwV 1 hts (goodV m_ml_X8_441 m_im_X8_put m_se_X8_put m_in_X8 m_cd_X8_put) rfl rfl rfl (by decide +kernel) ⟨Nat.le_of_ble_eq_true rfl, Nat.le_of_ble_eq_true rfl⟩) hN hK hP hD hS hA rfl 0 rfl rfl rfl hl.1 rfl (Nat.le_of_ble_eq_true rfl) dX8_print_74 ⟨Nat.zero_le _, Nat.zero_le _⟩ (fun H locs hP hD hS => ?_)
    refine lv_aload_n hx hb dX8_print_77 rfl (lv_at hl 0 rfl) ?_
    refine lv_aload_n hx hb dX8_print_78 rfl (lv_at hl 0 rfl) ?_
    refine va_get (D := (dC, dI)) (ci := 8) (v := .ref (ad 11)) (C := RX8) (T := TX8) (N := 78) hx hb hts ki8 hown hK hP 0 rfl rfl 17 (by decide) kf42 (fun _ h9 => h9) rfl dX8_print_79 ?_
    refine lv_iload_n hx hb dX8_print_82 rfl (lv_at hl 1 rfl) ?_
    obtain ⟨g_127, h⟩ := g_n h
    refine va_iald (f := (aM 17)) hx hb hK hP 11 0 rfl rfl g_127 dX8_print_83 ?_
    obtain ⟨q84, e84, h⟩ := g_b h
    refine callVvs (cc := cX8_print) (w1 := zzM ad cy (us iM [(73, q84.1), (77, q84.2.1)]) (us aM [(72, q84.2.2.1), (74, q84.2.2.2.1), (75, q84.2.2.2.2.1), (76, q84.2.2.2.2.2)])) (As := [.int (((aM 17) v1.toNatClampNeg))]) (rest := []) ⟨hx, hb, hml, hown, hts⟩ (c_M_putConcept l dC dI cy ad H.size N (((aM 17) v1.toNatClampNeg)) ((us iM [(73, q74.1), (77, x_iM77)])) ((us aM [(72, q74.2), (74, x_aM74), (75, x_aM75), (76, x_aM76)])) q84 e84) (cwV 1 hts (goodV m_ml_X8_458 m_im_X8_putConcept m_se_X8_putConcept m_in_X8 m_cd_X8_putConcept) rfl rfl rfl (by decide +kernel) ⟨Nat.le_of_ble_eq_true rfl, Nat.le_of_ble_eq_true rfl⟩) hN hK hP hD hS hA rfl 0 rfl rfl rfl hl.1 rfl (Nat.le_of_ble_eq_true rfl) dX8_print_84 ⟨Nat.zero_le _, Nat.zero_le _⟩ (fun H locs hP hD hS => ?_)
    refine lv_goto (tgt := 167) hx hb dX8_print_87 (by decide) ?_
    exact B167 v1 q84.1 q84.2.1 q84.2.2.1 q84.2.2.2.1 q84.2.2.2.2.1 q84.2.2.2.2.2 k17 hk17 H locs ls h hP hD hS (lv_sub hl [0, 1] rfl)
  have B141 : ∀ (v1 : Int32) (x_iM73 : Int32) (x_iM77 : Int32) (x_aM72 : Nat → Int32) (x_aM74 : Nat → Int32) (x_aM75 : Nat → Int32) (x_aM76 : Nat → Int32) (k17 : Int32 → Int32 → Int32 → (Nat → Int32) → (Nat → Int32) → (Nat → Int32) → (Nat → Int32) → Option (Int32 × Int32 × Int32 × (Nat → Int32) × (Nat → Int32) × (Nat → Int32) × (Nat → Int32))) (hk17 : ∀ (v1' : Int32) (x_iM73' : Int32) (x_iM77' : Int32) (x_aM72' : Nat → Int32) (x_aM74' : Nat → Int32) (x_aM75' : Nat → Int32) (x_aM76' : Nat → Int32) (H : Heap) (locs : List Loc) (ls : Array Slot), k17 v1' x_iM73' x_iM77' x_aM72' x_aM74' x_aM75' x_aM76' = some q → va_P (dC, dI) vwCl (zzM ad cy (us iM [(73, x_iM73'), (77, x_iM77')]) (us aM [(72, x_aM72'), (74, x_aM74'), (75, x_aM75'), (76, x_aM76')])) H → va_D A (zzM ad cy (us iM [(73, x_iM73'), (77, x_iM77')]) (us aM [(72, x_aM72'), (74, x_aM74'), (75, x_aM75'), (76, x_aM76')])) → va_S A s.heap H locs → lv_has ls 2 [(0, .ref (ad 0)), (1, .int v1')] → W p l e ({ frames := 4, cells := 0, slots := 0, locals := 89 } : Room) s m args below meth c H locs 0 0 QQ (F0 m 17 ls [])) (H : Heap) (locs : List Loc) (ls : Array Slot), f_M_print_141 N (iM 18) (iM 37) (iM 73) (iM 77) (aM 7) (aM 8) (aM 9) (aM 10) (aM 15) (aM 16) (aM 17) (aM 23) (aM 24) (aM 26) (aM 27) (aM 72) (aM 74) (aM 75) (aM 76) k17 v1 x_iM73 x_iM77 x_aM72 x_aM74 x_aM75 x_aM76 = some q → va_P (dC, dI) vwCl (zzM ad cy (us iM [(73, x_iM73), (77, x_iM77)]) (us aM [(72, x_aM72), (74, x_aM74), (75, x_aM75), (76, x_aM76)])) H → va_D A (zzM ad cy (us iM [(73, x_iM73), (77, x_iM77)]) (us aM [(72, x_aM72), (74, x_aM74), (75, x_aM75), (76, x_aM76)])) → va_S A s.heap H locs → lv_has ls 2 [(0, .ref (ad 0)), (1, .int v1)] → W p l e ({ frames := 4, cells := 0, slots := 0, locals := 89 } : Room) s m args below meth c H locs 0 0 QQ (F0 m 141 ls []) := by
    intro v1 x_iM73 x_iM77 x_aM72 x_aM74 x_aM75 x_aM76 k17 hk17 H locs ls h hP hD hS hl
    unfold f_M_print_141 at h
    refine lv_aload_n hx hb dX8_print_141 rfl (lv_at hl 0 rfl) ?_
    refine va_get (D := (dC, dI)) (ci := 8) (v := .ref (ad 9)) (C := RX8) (T := TX8) (N := 78) hx hb hts ki8 hown hK hP 0 rfl rfl 15 (by decide) kf36 (fun _ h9 => h9) rfl dX8_print_142 ?_
    refine lv_iload_n hx hb dX8_print_145 rfl (lv_at hl 1 rfl) ?_
    obtain ⟨g_127, h⟩ := g_n h
    refine va_iald (f := (aM 15)) hx hb hK hP 9 0 rfl rfl g_127 dX8_print_146 ?_
    refine lv_iconst (v := 3) hx hb dX8_print_147 (by decide) ?_
    refine lv_icmp_ne (tgt := 167) hx hb dX8_print_148 (by decide) (fun cz => ?_) (fun cz => ?_)
    · have h := g_f h cz
      exact B167 v1 x_iM73 x_iM77 x_aM72 x_aM74 x_aM75 x_aM76 k17 hk17 H locs ls h hP hD hS (lv_sub hl [0, 1] rfl)
    · have h := g_t h cz
      refine lv_aload_n hx hb dX8_print_151 rfl (lv_at hl 0 rfl) ?_
      refine lv_bipush (v := 32) hx hb dX8_print_152 (by decide) ?_
      obtain ⟨q154, e154, h⟩ := g_b h
      refine callVvs (cc := cX8_print) (w1 := zzM ad cy (us iM [(73, q154.1), (77, x_iM77)]) (us aM [(72, q154.2), (74, x_aM74), (75, x_aM75), (76, x_aM76)])) (As := [.int ((32 : Int32))]) (rest := []) ⟨hx, hb, hml, hown, hts⟩ (c_M_put l dC dI cy ad H.size ((32 : Int32)) ((us iM [(73, x_iM73), (77, x_iM77)])) ((us aM [(72, x_aM72), (74, x_aM74), (75, x_aM75), (76, x_aM76)])) q154 e154) (cwV 1 hts (goodV m_ml_X8_441 m_im_X8_put m_se_X8_put m_in_X8 m_cd_X8_put) rfl rfl rfl (by decide +kernel) ⟨Nat.le_of_ble_eq_true rfl, Nat.le_of_ble_eq_true rfl⟩) hN hK hP hD hS hA rfl 0 rfl rfl rfl hl.1 rfl (Nat.le_of_ble_eq_true rfl) dX8_print_154 ⟨Nat.zero_le _, Nat.zero_le _⟩ (fun H locs hP hD hS => ?_)
      refine lv_aload_n hx hb dX8_print_157 rfl (lv_at hl 0 rfl) ?_
      refine lv_aload_n hx hb dX8_print_158 rfl (lv_at hl 0 rfl) ?_
      refine va_get (D := (dC, dI)) (ci := 8) (v := .ref (ad 11)) (C := RX8) (T := TX8) (N := 78) hx hb hts ki8 hown hK hP 0 rfl rfl 17 (by decide) kf42 (fun _ h9 => h9) rfl dX8_print_159 ?_
      refine lv_iload_n hx hb dX8_print_162 rfl (lv_at hl 1 rfl) ?_
      refine va_iald (f := (aM 17)) hx hb hK hP 11 0 rfl rfl g_127 dX8_print_163 ?_
      obtain ⟨q164, e164, h⟩ := g_b h
      refine callVvs (cc := cX8_print) (w1 := zzM ad cy (us iM [(73, q164.1), (77, x_iM77)]) (us aM [(72, q164.2), (74, x_aM74), (75, x_aM75), (76, x_aM76)])) (As := [.int (((aM 17) v1.toNatClampNeg))]) (rest := []) ⟨hx, hb, hml, hown, hts⟩ (c_M_putRole l dC dI cy ad H.size N (((aM 17) v1.toNatClampNeg)) ((us iM [(73, q154.1), (77, x_iM77)])) ((us aM [(72, q154.2), (74, x_aM74), (75, x_aM75), (76, x_aM76)])) q164 e164) (cwV 1 hts (goodV m_ml_X8_452 m_im_X8_putRole m_se_X8_putRole m_in_X8 m_cd_X8_putRole) rfl rfl rfl (by decide +kernel) ⟨Nat.le_of_ble_eq_true rfl, Nat.le_of_ble_eq_true rfl⟩) hN hK hP hD hS hA rfl 0 rfl rfl rfl hl.1 rfl (Nat.le_of_ble_eq_true rfl) dX8_print_164 ⟨Nat.zero_le _, Nat.zero_le _⟩ (fun H locs hP hD hS => ?_)
      exact B167 v1 q164.1 x_iM77 q164.2 x_aM74 x_aM75 x_aM76 k17 hk17 H locs ls h hP hD hS (lv_sub hl [0, 1] rfl)
  have B17 : ∀ (n : Nat) (v1 : Int32) (x_iM73 : Int32) (x_iM77 : Int32) (x_aM72 : Nat → Int32) (x_aM74 : Nat → Int32) (x_aM75 : Nat → Int32) (x_aM76 : Nat → Int32) (H : Heap) (locs : List Loc) (ls : Array Slot), f_M_print_17 N (iM 18) (iM 37) (iM 73) (iM 77) (aM 7) (aM 8) (aM 9) (aM 10) (aM 15) (aM 16) (aM 17) (aM 23) (aM 24) (aM 26) (aM 27) (aM 72) (aM 74) (aM 75) (aM 76) n v1 x_iM73 x_iM77 x_aM72 x_aM74 x_aM75 x_aM76 = some q → va_P (dC, dI) vwCl (zzM ad cy (us iM [(73, x_iM73), (77, x_iM77)]) (us aM [(72, x_aM72), (74, x_aM74), (75, x_aM75), (76, x_aM76)])) H → va_D A (zzM ad cy (us iM [(73, x_iM73), (77, x_iM77)]) (us aM [(72, x_aM72), (74, x_aM74), (75, x_aM75), (76, x_aM76)])) → va_S A s.heap H locs → lv_has ls 2 [(0, .ref (ad 0)), (1, .int v1)] → W p l e ({ frames := 4, cells := 0, slots := 0, locals := 89 } : Room) s m args below meth c H locs 0 0 QQ (F0 m 17 ls []) := by
    intro n
    induction n with
    | zero =>
      intro v1 x_iM73 x_iM77 x_aM72 x_aM74 x_aM75 x_aM76 H locs ls h hP hD hS hl
      rw [f_M_print_17] at h
      cases h
    | succ n ih =>
      intro v1 x_iM73 x_iM77 x_aM72 x_aM74 x_aM75 x_aM76 H locs ls h hP hD hS hl
      rw [f_M_print_17] at h
      refine lv_iload_n hx hb dX8_print_17 rfl (lv_at hl 1 rfl) ?_
      refine lv_aload_n hx hb dX8_print_18 rfl (lv_at hl 0 rfl) ?_
      refine va_get (D := (dC, dI)) (ci := 8) (v := .int (iM 18)) (C := RX8) (T := TX8) (N := 78) hx hb hts ki8 hown hK hP 0 rfl rfl 18 (by decide) kf338 (fun _ h9 => h9) rfl dX8_print_19 ?_
      refine lv_icmp_ge (tgt := 185) hx hb dX8_print_22 (by decide) (fun cz => ?_) (fun cz => ?_)
      · have h := g_t h cz
        refine lv_aload_n hx hb dX8_print_185 rfl (lv_at hl 0 rfl) ?_
        refine va_get (D := (dC, dI)) (ci := 8) (v := .int x_iM73) (C := RX8) (T := TX8) (N := 78) hx hb hts ki8 hown hK hP 0 rfl rfl 73 (by decide) kf402 (fun _ h9 => h9) rfl dX8_print_186 ?_
        have h' := Option.some.inj h
        rw [← hQQ]
        exact W.iret (v := x_iM73) hx hb hr (fun t ht hW => ⟨⟨x_iM73, (), rfl, by rw [← h'], by rw [← hWQ, ← h', ht]; exact hP, va_K.moved hW.alike hK⟩, hS.F ht⟩) hS.2.2 dX8_print_189
      · have h := g_f h cz
        refine lv_aload_n hx hb dX8_print_25 rfl (lv_at hl 0 rfl) ?_
        refine va_get (D := (dC, dI)) (ci := 8) (v := .ref (ad 9)) (C := RX8) (T := TX8) (N := 78) hx hb hts ki8 hown hK hP 0 rfl rfl 15 (by decide) kf36 (fun _ h9 => h9) rfl dX8_print_26 ?_
        refine lv_iload_n hx hb dX8_print_29 rfl (lv_at hl 1 rfl) ?_
        obtain ⟨g_127, h⟩ := g_n h
        refine va_iald (f := (aM 15)) hx hb hK hP 9 0 rfl rfl g_127 dX8_print_30 ?_
        refine lv_iconst (v := 2) hx hb dX8_print_31 (by decide) ?_
        refine lv_icmp_ge (tgt := 90) hx hb dX8_print_32 (by decide) (fun cz => ?_) (fun cz => ?_)
        · have h := g_t h cz
          refine lv_aload_n hx hb dX8_print_90 rfl (lv_at hl 0 rfl) ?_
          refine lv_aload_n hx hb dX8_print_91 rfl (lv_at hl 0 rfl) ?_
          refine va_get (D := (dC, dI)) (ci := 8) (v := .ref (ad 9)) (C := RX8) (T := TX8) (N := 78) hx hb hts ki8 hown hK hP 0 rfl rfl 15 (by decide) kf36 (fun _ h9 => h9) rfl dX8_print_92 ?_
          refine lv_iload_n hx hb dX8_print_95 rfl (lv_at hl 1 rfl) ?_
          refine va_iald (f := (aM 15)) hx hb hK hP 9 0 rfl rfl g_127 dX8_print_96 ?_
          refine lv_iconst (v := 2) hx hb dX8_print_97 (by decide) ?_
          refine lv_isub hx hb dX8_print_98 ?_
          obtain ⟨q99, e99, h⟩ := g_b h
          refine callVvs (cc := cX8_print) (w1 := zzM ad cy (us iM [(73, q99.1), (77, x_iM77)]) (us aM [(72, q99.2), (74, x_aM74), (75, x_aM75), (76, x_aM76)])) (As := [.int ((((aM 15) v1.toNatClampNeg) - (2 : Int32)))]) (rest := []) ⟨hx, hb, hml, hown, hts⟩ (c_M_putWord l dC dI cy ad H.size N ((((aM 15) v1.toNatClampNeg) - (2 : Int32))) ((us iM [(73, x_iM73), (77, x_iM77)])) ((us aM [(72, x_aM72), (74, x_aM74), (75, x_aM75), (76, x_aM76)])) q99 e99) (cwV 1 hts (goodV m_ml_X8_449 m_im_X8_putWord m_se_X8_putWord m_in_X8 m_cd_X8_putWord) rfl rfl rfl (by decide +kernel) ⟨Nat.le_of_ble_eq_true rfl, Nat.le_of_ble_eq_true rfl⟩) hN hK hP hD hS hA rfl 0 rfl rfl rfl hl.1 rfl (Nat.le_of_ble_eq_true rfl) dX8_print_99 ⟨Nat.zero_le _, Nat.zero_le _⟩ (fun H locs hP hD hS => ?_)
          refine lv_aload_n hx hb dX8_print_102 rfl (lv_at hl 0 rfl) ?_
          refine lv_bipush (v := 32) hx hb dX8_print_103 (by decide) ?_
          obtain ⟨q105, e105, h⟩ := g_b h
          refine callVvs (cc := cX8_print) (w1 := zzM ad cy (us iM [(73, q105.1), (77, x_iM77)]) (us aM [(72, q105.2), (74, x_aM74), (75, x_aM75), (76, x_aM76)])) (As := [.int ((32 : Int32))]) (rest := []) ⟨hx, hb, hml, hown, hts⟩ (c_M_put l dC dI cy ad H.size ((32 : Int32)) ((us iM [(73, q99.1), (77, x_iM77)])) ((us aM [(72, q99.2), (74, x_aM74), (75, x_aM75), (76, x_aM76)])) q105 e105) (cwV 1 hts (goodV m_ml_X8_441 m_im_X8_put m_se_X8_put m_in_X8 m_cd_X8_put) rfl rfl rfl (by decide +kernel) ⟨Nat.le_of_ble_eq_true rfl, Nat.le_of_ble_eq_true rfl⟩) hN hK hP hD hS hA rfl 0 rfl rfl rfl hl.1 rfl (Nat.le_of_ble_eq_true rfl) dX8_print_105 ⟨Nat.zero_le _, Nat.zero_le _⟩ (fun H locs hP hD hS => ?_)
          refine lv_aload_n hx hb dX8_print_108 rfl (lv_at hl 0 rfl) ?_
          refine va_get (D := (dC, dI)) (ci := 8) (v := .ref (ad 9)) (C := RX8) (T := TX8) (N := 78) hx hb hts ki8 hown hK hP 0 rfl rfl 15 (by decide) kf36 (fun _ h9 => h9) rfl dX8_print_109 ?_
          refine lv_iload_n hx hb dX8_print_112 rfl (lv_at hl 1 rfl) ?_
          refine va_iald (f := (aM 15)) hx hb hK hP 9 0 rfl rfl g_127 dX8_print_113 ?_
          refine lv_iconst (v := 2) hx hb dX8_print_114 (by decide) ?_
          refine lv_icmp_ne (tgt := 131) hx hb dX8_print_115 (by decide) (fun cz => ?_) (fun cz => ?_)
          · have h := g_f h cz
            refine lv_aload_n hx hb dX8_print_131 rfl (lv_at hl 0 rfl) ?_
            refine lv_aload_n hx hb dX8_print_132 rfl (lv_at hl 0 rfl) ?_
            refine va_get (D := (dC, dI)) (ci := 8) (v := .ref (ad 10)) (C := RX8) (T := TX8) (N := 78) hx hb hts ki8 hown hK hP 0 rfl rfl 16 (by decide) kf39 (fun _ h9 => h9) rfl dX8_print_133 ?_
            refine lv_iload_n hx hb dX8_print_136 rfl (lv_at hl 1 rfl) ?_
            refine va_iald (f := (aM 16)) hx hb hK hP 10 0 rfl rfl g_127 dX8_print_137 ?_
            obtain ⟨q138, e138, h⟩ := g_b h
            refine callVvs (cc := cX8_print) (w1 := zzM ad cy (us iM [(73, q138.1), (77, x_iM77)]) (us aM [(72, q138.2), (74, x_aM74), (75, x_aM75), (76, x_aM76)])) (As := [.int (((aM 16) v1.toNatClampNeg))]) (rest := []) ⟨hx, hb, hml, hown, hts⟩ (c_M_putRole l dC dI cy ad H.size N (((aM 16) v1.toNatClampNeg)) ((us iM [(73, q105.1), (77, x_iM77)])) ((us aM [(72, q105.2), (74, x_aM74), (75, x_aM75), (76, x_aM76)])) q138 e138) (cwV 1 hts (goodV m_ml_X8_452 m_im_X8_putRole m_se_X8_putRole m_in_X8 m_cd_X8_putRole) rfl rfl rfl (by decide +kernel) ⟨Nat.le_of_ble_eq_true rfl, Nat.le_of_ble_eq_true rfl⟩) hN hK hP hD hS hA rfl 0 rfl rfl rfl hl.1 rfl (Nat.le_of_ble_eq_true rfl) dX8_print_138 ⟨Nat.zero_le _, Nat.zero_le _⟩ (fun H locs hP hD hS => ?_)
            exact B141 v1 q138.1 x_iM77 q138.2 x_aM74 x_aM75 x_aM76 (f_M_print_17 N (iM 18) (iM 37) (iM 73) (iM 77) (aM 7) (aM 8) (aM 9) (aM 10) (aM 15) (aM 16) (aM 17) (aM 23) (aM 24) (aM 26) (aM 27) (aM 72) (aM 74) (aM 75) (aM 76) n) ih H locs ls h hP hD hS (lv_sub hl [0, 1] rfl)
          · have h := g_t h cz
            refine lv_aload_n hx hb dX8_print_118 rfl (lv_at hl 0 rfl) ?_
            refine lv_aload_n hx hb dX8_print_119 rfl (lv_at hl 0 rfl) ?_
            refine va_get (D := (dC, dI)) (ci := 8) (v := .ref (ad 10)) (C := RX8) (T := TX8) (N := 78) hx hb hts ki8 hown hK hP 0 rfl rfl 16 (by decide) kf39 (fun _ h9 => h9) rfl dX8_print_120 ?_
            refine lv_iload_n hx hb dX8_print_123 rfl (lv_at hl 1 rfl) ?_
            refine va_iald (f := (aM 16)) hx hb hK hP 10 0 rfl rfl g_127 dX8_print_124 ?_
            obtain ⟨q125, e125, h⟩ := g_b h
            refine callVvs (cc := cX8_print) (w1 := zzM ad cy (us iM [(73, q125.1), (77, q125.2.1)]) (us aM [(72, q125.2.2.1), (74, q125.2.2.2.1), (75, q125.2.2.2.2.1), (76, q125.2.2.2.2.2)])) (As := [.int (((aM 16) v1.toNatClampNeg))]) (rest := []) ⟨hx, hb, hml, hown, hts⟩ (c_M_putConcept l dC dI cy ad H.size N (((aM 16) v1.toNatClampNeg)) ((us iM [(73, q105.1), (77, x_iM77)])) ((us aM [(72, q105.2), (74, x_aM74), (75, x_aM75), (76, x_aM76)])) q125 e125) (cwV 1 hts (goodV m_ml_X8_458 m_im_X8_putConcept m_se_X8_putConcept m_in_X8 m_cd_X8_putConcept) rfl rfl rfl (by decide +kernel) ⟨Nat.le_of_ble_eq_true rfl, Nat.le_of_ble_eq_true rfl⟩) hN hK hP hD hS hA rfl 0 rfl rfl rfl hl.1 rfl (Nat.le_of_ble_eq_true rfl) dX8_print_125 ⟨Nat.zero_le _, Nat.zero_le _⟩ (fun H locs hP hD hS => ?_)
            refine lv_goto (tgt := 141) hx hb dX8_print_128 (by decide) ?_
            exact B141 v1 q125.1 q125.2.1 q125.2.2.1 q125.2.2.2.1 q125.2.2.2.2.1 q125.2.2.2.2.2 (f_M_print_17 N (iM 18) (iM 37) (iM 73) (iM 77) (aM 7) (aM 8) (aM 9) (aM 10) (aM 15) (aM 16) (aM 17) (aM 23) (aM 24) (aM 26) (aM 27) (aM 72) (aM 74) (aM 75) (aM 76) n) ih H locs ls h hP hD hS (lv_sub hl [0, 1] rfl)
        · have h := g_f h cz
          refine lv_aload_n hx hb dX8_print_35 rfl (lv_at hl 0 rfl) ?_
          refine lv_aload_n hx hb dX8_print_36 rfl (lv_at hl 0 rfl) ?_
          refine va_get (D := (dC, dI)) (ci := 8) (v := .ref (ad 10)) (C := RX8) (T := TX8) (N := 78) hx hb hts ki8 hown hK hP 0 rfl rfl 16 (by decide) kf39 (fun _ h9 => h9) rfl dX8_print_37 ?_
          refine lv_iload_n hx hb dX8_print_40 rfl (lv_at hl 1 rfl) ?_
          refine va_iald (f := (aM 16)) hx hb hK hP 10 0 rfl rfl g_127 dX8_print_41 ?_
          obtain ⟨q42, e42, h⟩ := g_b h
          refine callVvs (cc := cX8_print) (w1 := zzM ad cy (us iM [(73, q42.1), (77, q42.2.1)]) (us aM [(72, q42.2.2.1), (74, q42.2.2.2.1), (75, q42.2.2.2.2.1), (76, q42.2.2.2.2.2)])) (As := [.int (((aM 16) v1.toNatClampNeg))]) (rest := []) ⟨hx, hb, hml, hown, hts⟩ (c_M_putConcept l dC dI cy ad H.size N (((aM 16) v1.toNatClampNeg)) ((us iM [(73, x_iM73), (77, x_iM77)])) ((us aM [(72, x_aM72), (74, x_aM74), (75, x_aM75), (76, x_aM76)])) q42 e42) (cwV 1 hts (goodV m_ml_X8_458 m_im_X8_putConcept m_se_X8_putConcept m_in_X8 m_cd_X8_putConcept) rfl rfl rfl (by decide +kernel) ⟨Nat.le_of_ble_eq_true rfl, Nat.le_of_ble_eq_true rfl⟩) hN hK hP hD hS hA rfl 0 rfl rfl rfl hl.1 rfl (Nat.le_of_ble_eq_true rfl) dX8_print_42 ⟨Nat.zero_le _, Nat.zero_le _⟩ (fun H locs hP hD hS => ?_)
          refine lv_aload_n hx hb dX8_print_45 rfl (lv_at hl 0 rfl) ?_
          refine lv_bipush (v := 32) hx hb dX8_print_46 (by decide) ?_
          obtain ⟨q48, e48, h⟩ := g_b h
          refine callVvs (cc := cX8_print) (w1 := zzM ad cy (us iM [(73, q48.1), (77, q42.2.1)]) (us aM [(72, q48.2), (74, q42.2.2.2.1), (75, q42.2.2.2.2.1), (76, q42.2.2.2.2.2)])) (As := [.int ((32 : Int32))]) (rest := []) ⟨hx, hb, hml, hown, hts⟩ (c_M_put l dC dI cy ad H.size ((32 : Int32)) ((us iM [(73, q42.1), (77, q42.2.1)])) ((us aM [(72, q42.2.2.1), (74, q42.2.2.2.1), (75, q42.2.2.2.2.1), (76, q42.2.2.2.2.2)])) q48 e48) (cwV 1 hts (goodV m_ml_X8_441 m_im_X8_put m_se_X8_put m_in_X8 m_cd_X8_put) rfl rfl rfl (by decide +kernel) ⟨Nat.le_of_ble_eq_true rfl, Nat.le_of_ble_eq_true rfl⟩) hN hK hP hD hS hA rfl 0 rfl rfl rfl hl.1 rfl (Nat.le_of_ble_eq_true rfl) dX8_print_48 ⟨Nat.zero_le _, Nat.zero_le _⟩ (fun H locs hP hD hS => ?_)
          refine lv_aload_n hx hb dX8_print_51 rfl (lv_at hl 0 rfl) ?_
          refine lv_aload_n hx hb dX8_print_52 rfl (lv_at hl 0 rfl) ?_
          refine va_get (D := (dC, dI)) (ci := 8) (v := .ref (ad 9)) (C := RX8) (T := TX8) (N := 78) hx hb hts ki8 hown hK hP 0 rfl rfl 15 (by decide) kf36 (fun _ h9 => h9) rfl dX8_print_53 ?_
          refine lv_iload_n hx hb dX8_print_56 rfl (lv_at hl 1 rfl) ?_
          refine va_iald (f := (aM 15)) hx hb hK hP 9 0 rfl rfl g_127 dX8_print_57 ?_
          refine lv_if_ne (tgt := 66) hx hb dX8_print_58 (by decide) (fun cz => ?_) (fun cz => ?_)
          · have h := g_f h cz
            refine lv_bipush (v := 61) hx hb dX8_print_66 (by decide) ?_
            exact B68 v1 ((61 : Int32)) q48.1 q42.2.1 q48.2 q42.2.2.2.1 q42.2.2.2.2.1 q42.2.2.2.2.2 (f_M_print_17 N (iM 18) (iM 37) (iM 73) (iM 77) (aM 7) (aM 8) (aM 9) (aM 10) (aM 15) (aM 16) (aM 17) (aM 23) (aM 24) (aM 26) (aM 27) (aM 72) (aM 74) (aM 75) (aM 76) n) ih H locs ls h hP hD hS (lv_sub hl [0, 1] rfl)
          · have h := g_t h cz
            refine lv_bipush (v := 60) hx hb dX8_print_61 (by decide) ?_
            refine lv_goto (tgt := 68) hx hb dX8_print_63 (by decide) ?_
            exact B68 v1 ((60 : Int32)) q48.1 q42.2.1 q48.2 q42.2.2.2.1 q42.2.2.2.2.1 q42.2.2.2.2.2 (f_M_print_17 N (iM 18) (iM 37) (iM 73) (iM 77) (aM 7) (aM 8) (aM 9) (aM 10) (aM 15) (aM 16) (aM 17) (aM 23) (aM 24) (aM 26) (aM 27) (aM 72) (aM 74) (aM 75) (aM 76) n) ih H locs ls h hP hD hS (lv_sub hl [0, 1] rfl)
  intro H locs hP hD hS
  unfold f_M_print at h
  refine lv_aload_n hx hb dX8_print_0 rfl (lv_at hl 0 rfl) ?_
  refine va_get (D := (dC, dI)) (ci := 8) (v := .int (iM 37)) (C := RX8) (T := TX8) (N := 78) hx hb hts ki8 hown hK hP 0 rfl rfl 37 (by decide) kf356 (fun _ h9 => h9) rfl dX8_print_1 ?_
  refine lv_if_ne (tgt := 10) hx hb dX8_print_4 (by decide) (fun cz => ?_) (fun cz => ?_)
  · have h := g_f h cz
    refine lv_aload_n hx hb dX8_print_10 rfl (lv_at hl 0 rfl) ?_
    refine lv_iconst (v := 0) hx hb dX8_print_11 (by decide) ?_
    refine va_put (D := (dC, dI)) (ci := 8) (v := .int ((0 : Int32))) (ty := .int) (C := RX8) (T := TX8) (N := 78) hx hb hts ki8 tyX8 tyX8_ok nmX8 hown hK hP hD hS 0 rfl rfl 73 (by decide) kf402 (fun _ h9 => h9) rfl (by decide +kernel) rfl rfl (Nat.le_of_ble_eq_true rfl) dX8_print_12 (fun H locs hP hD hS => ?_)
    have hP : va_P (dC, dI) vwCl (zzM ad cy (us iM [(73, (0 : Int32))]) aM) H := Eq.mp (congrArg (fun w => va_P (dC, dI) vwCl w H) (sfM_iM73 ad cy iM aM ((0 : Int32)))) hP
    have hD : va_D A (zzM ad cy (us iM [(73, (0 : Int32))]) aM) := Eq.mp (congrArg (fun w => va_D A w) (sfM_iM73 ad cy iM aM ((0 : Int32)))) hD
    refine lv_iconst (v := 0) hx hb dX8_print_15 (by decide) ?_
    refine lv_istore_n (lv' := [(1, .int ((0 : Int32))), (0, .ref (ad 0))]) hx hb dX8_print_16 rfl hl (by decide) rfl (fun ls hl => ?_)
    exact B17 N ((0 : Int32)) ((0 : Int32)) (iM 77) (aM 72) (aM 74) (aM 75) (aM 76) H locs ls h hP hD hS (lv_sub hl [1, 0] rfl)
  · have h := g_t h cz
    refine lv_bipush (v := (-101)) hx hb dX8_print_7 (by decide) ?_
    have h' := Option.some.inj h
    rw [← hQQ]
    exact W.iret (v := (-101 : Int32)) hx hb hr (fun t ht hW => ⟨⟨(-101 : Int32), (), rfl, by rw [← h'], by rw [← hWQ, ← h', ht]; exact hP, va_K.moved hW.alike hK⟩, hS.F ht⟩) hS.2.2 dX8_print_9
