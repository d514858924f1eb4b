def f_M_putOne_90 (N : Nat) (iM73 : Int32) (iM77 : Int32) (aM7 : Nat → Int32) (aM8 : Nat → Int32) (aM9 : Nat → Int32) (aM10 : Nat → Int32) (aM23 : Nat → Int32) (aM24 : Nat → Int32) (aM26 : Nat → Int32) (aM27 : Nat → Int32) (aM72 : Nat → Int32) (aM74 : Nat → Int32) (aM75 : Nat → Int32) (aM76 : Nat → Int32) (s1 : Int32) (x_iM73 : Int32) (x_iM77 : Int32) (x_aM72 : Nat → Int32) (x_aM74 : Nat → Int32) (x_aM75 : Nat → Int32) (x_aM76 : Nat → Int32) : Option (Int32 × Int32 × (Nat → Int32) × (Nat → Int32) × (Nat → Int32) × (Nat → Int32)) := (f_M_putWord N s1 x_iM73 aM7 x_aM72).bind fun q90 => (some (q90.1, x_iM77, q90.2, x_aM74, x_aM75, x_aM76))
def f_M_putOne_77 (N : Nat) (iM73 : Int32) (iM77 : Int32) (aM7 : Nat → Int32) (aM8 : Nat → Int32) (aM9 : Nat → Int32) (aM10 : Nat → Int32) (aM23 : Nat → Int32) (aM24 : Nat → Int32) (aM26 : Nat → Int32) (aM27 : Nat → Int32) (aM72 : Nat → Int32) (aM74 : Nat → Int32) (aM75 : Nat → Int32) (aM76 : Nat → Int32) (v3 : Int32) (x_iM73 : Int32) (x_iM77 : Int32) (x_aM72 : Nat → Int32) (x_aM74 : Nat → Int32) (x_aM75 : Nat → Int32) (x_aM76 : Nat → Int32) : Option (Int32 × Int32 × (Nat → Int32) × (Nat → Int32) × (Nat → Int32) × (Nat → Int32)) := if v3 = (1 : Int32) then (f_M_putOne_90 N iM73 iM77 aM7 aM8 aM9 aM10 aM23 aM24 aM26 aM27 aM72 aM74 aM75 aM76 ((8 : Int32)) x_iM73 x_iM77 x_aM72 x_aM74 x_aM75 x_aM76) else (f_M_putOne_90 N iM73 iM77 aM7 aM8 aM9 aM10 aM23 aM24 aM26 aM27 aM72 aM74 aM75 aM76 ((9 : Int32)) x_iM73 x_iM77 x_aM72 x_aM74 x_aM75 x_aM76)
def f_M_putOne_154 (N : Nat) (iM73 : Int32) (iM77 : Int32) (aM7 : Nat → Int32) (aM8 : Nat → Int32) (aM9 : Nat → Int32) (aM10 : Nat → Int32) (aM23 : Nat → Int32) (aM24 : Nat → Int32) (aM26 : Nat → Int32) (aM27 : Nat → Int32) (aM72 : Nat → Int32) (aM74 : Nat → Int32) (aM75 : Nat → Int32) (aM76 : Nat → Int32) (v1 : Int32) (x_iM73 : Int32) (x_iM77 : Int32) (x_aM72 : Nat → Int32) (x_aM74 : Nat → Int32) (x_aM75 : Nat → Int32) (x_aM76 : Nat → Int32) : Option (Int32 × Int32 × (Nat → Int32) × (Nat → Int32) × (Nat → Int32) × (Nat → Int32)) := if v1 < 0 ∨ 400 ≤ v1.toNatClampNeg then none else ((f_M_later ((0 : Int32)) ((aM10 v1.toNatClampNeg)) ((3 : Int32)) x_iM77 x_aM74 x_aM75 x_aM76).bind fun q163 => (some (x_iM73, q163.1, x_aM72, q163.2.1, q163.2.2.1, q163.2.2.2)))
def f_M_putOne_124 (N : Nat) (iM73 : Int32) (iM77 : Int32) (aM7 : Nat → Int32) (aM8 : Nat → Int32) (aM9 : Nat → Int32) (aM10 : Nat → Int32) (aM23 : Nat → Int32) (aM24 : Nat → Int32) (aM26 : Nat → Int32) (aM27 : Nat → Int32) (aM72 : Nat → Int32) (aM74 : Nat → Int32) (aM75 : Nat → Int32) (aM76 : Nat → Int32) (v1 : Int32) (v3 : Int32) (s1 : Int32) (x_iM73 : Int32) (x_iM77 : Int32) (x_aM72 : Nat → Int32) (x_aM74 : Nat → Int32) (x_aM75 : Nat → Int32) (x_aM76 : Nat → Int32) : Option (Int32 × Int32 × (Nat → Int32) × (Nat → Int32) × (Nat → Int32) × (Nat → Int32)) := (f_M_putWord N s1 x_iM73 aM7 x_aM72).bind fun q124 => ((f_M_put ((32 : Int32)) q124.1 q124.2).bind fun q130 => (if v3 = (3 : Int32) then (f_M_putOne_154 N iM73 iM77 aM7 aM8 aM9 aM10 aM23 aM24 aM26 aM27 aM72 aM74 aM75 aM76 v1 q130.1 x_iM77 q130.2 x_aM74 x_aM75 x_aM76) else (if v1 < 0 ∨ 400 ≤ v1.toNatClampNeg then none else ((f_M_putRole N ((aM9 v1.toNatClampNeg)) q130.1 aM26 aM27 q130.2).bind fun q145 => ((f_M_put ((32 : Int32)) q145.1 q145.2).bind fun q151 => (f_M_putOne_154 N iM73 iM77 aM7 aM8 aM9 aM10 aM23 aM24 aM26 aM27 aM72 aM74 aM75 aM76 v1 q151.1 x_iM77 q151.2 x_aM74 x_aM75 x_aM76))))))
def f_M_putOne_205 (N : Nat) (iM73 : Int32) (iM77 : Int32) (aM7 : Nat → Int32) (aM8 : Nat → Int32) (aM9 : Nat → Int32) (aM10 : Nat → Int32) (aM23 : Nat → Int32) (aM24 : Nat → Int32) (aM26 : Nat → Int32) (aM27 : Nat → Int32) (aM72 : Nat → Int32) (aM74 : Nat → Int32) (aM75 : Nat → Int32) (aM76 : Nat → Int32) (v1 : Int32) (v4 : Int32) (s1 : Int32) (s2 : Int32) (x_iM73 : Int32) (x_iM77 : Int32) (x_aM72 : Nat → Int32) (x_aM74 : Nat → Int32) (x_aM75 : Nat → Int32) (x_aM76 : Nat → Int32) : Option (Int32 × Int32 × (Nat → Int32) × (Nat → Int32) × (Nat → Int32) × (Nat → Int32)) := (f_M_later s1 s2 ((0 : Int32)) x_iM77 x_aM74 x_aM75 x_aM76).bind fun q206 => ((f_M_later ((1 : Int32)) ((32 : Int32)) ((0 : Int32)) q206.1 q206.2.1 q206.2.2.1 q206.2.2.2).bind fun q214 => (if v1 < 0 ∨ 400 ≤ v1.toNatClampNeg then none else ((f_M_later ((0 : Int32)) ((aM9 v1.toNatClampNeg)) v4 q214.1 q214.2.1 q214.2.2.1 q214.2.2.2).bind fun q227 => (some (x_iM73, q227.1, x_aM72, q227.2.1, q227.2.2.1, q227.2.2.2)))))
def f_M_putOne_50 (N : Nat) (iM73 : Int32) (iM77 : Int32) (aM7 : Nat → Int32) (aM8 : Nat → Int32) (aM9 : Nat → Int32) (aM10 : Nat → Int32) (aM23 : Nat → Int32) (aM24 : Nat → Int32) (aM26 : Nat → Int32) (aM27 : Nat → Int32) (aM72 : Nat → Int32) (aM74 : Nat → Int32) (aM75 : Nat → Int32) (aM76 : Nat → Int32) (v1 : Int32) (v3 : Int32) (v4 : Int32) (x_iM73 : Int32) (x_iM77 : Int32) (x_aM72 : Nat → Int32) (x_aM74 : Nat → Int32) (x_aM75 : Nat → Int32) (x_aM76 : Nat → Int32) : Option (Int32 × Int32 × (Nat → Int32) × (Nat → Int32) × (Nat → Int32) × (Nat → Int32)) := if v3 = 0 then (if v1 < 0 ∨ 400 ≤ v1.toNatClampNeg then none else ((f_M_putName N ((aM9 v1.toNatClampNeg)) x_iM73 aM23 aM24 x_aM72).bind fun q61 => (some (q61.1, x_iM77, q61.2, x_aM74, x_aM75, x_aM76)))) else (if v3 = (1 : Int32) then (f_M_putOne_77 N iM73 iM77 aM7 aM8 aM9 aM10 aM23 aM24 aM26 aM27 aM72 aM74 aM75 aM76 v3 x_iM73 x_iM77 x_aM72 x_aM74 x_aM75 x_aM76) else (if v3 = (2 : Int32) then (f_M_putOne_77 N iM73 iM77 aM7 aM8 aM9 aM10 aM23 aM24 aM26 aM27 aM72 aM74 aM75 aM76 v3 x_iM73 x_iM77 x_aM72 x_aM74 x_aM75 x_aM76) else (if (6 : Int32) ≤ v3 then (if v1 < 0 ∨ 400 ≤ v1.toNatClampNeg then none else ((f_M_later ((0 : Int32)) ((aM10 v1.toNatClampNeg)) ((v4 + (1 : Int32))) x_iM77 x_aM74 x_aM75 x_aM76).bind fun q181 => ((f_M_later ((1 : Int32)) ((32 : Int32)) ((0 : Int32)) q181.1 q181.2.1 q181.2.2.1 q181.2.2.2).bind fun q189 => (if v3 = (6 : Int32) then (f_M_putOne_205 N iM73 iM77 aM7 aM8 aM9 aM10 aM23 aM24 aM26 aM27 aM72 aM74 aM75 aM76 v1 v4 ((2 : Int32)) ((4 : Int32)) x_iM73 q189.1 x_aM72 q189.2.1 q189.2.2.1 q189.2.2.2) else (f_M_putOne_205 N iM73 iM77 aM7 aM8 aM9 aM10 aM23 aM24 aM26 aM27 aM72 aM74 aM75 aM76 v1 v4 ((2 : Int32)) ((3 : Int32)) x_iM73 q189.1 x_aM72 q189.2.1 q189.2.2.1 q189.2.2.2))))) else (if v3 = (3 : Int32) then (f_M_putOne_124 N iM73 iM77 aM7 aM8 aM9 aM10 aM23 aM24 aM26 aM27 aM72 aM74 aM75 aM76 v1 v3 ((5 : Int32)) x_iM73 x_iM77 x_aM72 x_aM74 x_aM75 x_aM76) else (if v3 = (4 : Int32) then (f_M_putOne_124 N iM73 iM77 aM7 aM8 aM9 aM10 aM23 aM24 aM26 aM27 aM72 aM74 aM75 aM76 v1 v3 ((6 : Int32)) x_iM73 x_iM77 x_aM72 x_aM74 x_aM75 x_aM76) else (f_M_putOne_124 N iM73 iM77 aM7 aM8 aM9 aM10 aM23 aM24 aM26 aM27 aM72 aM74 aM75 aM76 v1 v3 ((7 : Int32)) x_iM73 x_iM77 x_aM72 x_aM74 x_aM75 x_aM76))))))
def f_M_putOne_28 (N : Nat) (iM73 : Int32) (iM77 : Int32) (aM7 : Nat → Int32) (aM8 : Nat → Int32) (aM9 : Nat → Int32) (aM10 : Nat → Int32) (aM23 : Nat → Int32) (aM24 : Nat → Int32) (aM26 : Nat → Int32) (aM27 : Nat → Int32) (aM72 : Nat → Int32) (aM74 : Nat → Int32) (aM75 : Nat → Int32) (aM76 : Nat → Int32) (v1 : Int32) (v2 : Int32) (v3 : Int32) (s0 : Int32) : Option (Int32 × Int32 × (Nat → Int32) × (Nat → Int32) × (Nat → Int32) × (Nat → Int32)) := if v2 ≤ s0 then (f_M_putOne_50 N iM73 iM77 aM7 aM8 aM9 aM10 aM23 aM24 aM26 aM27 aM72 aM74 aM75 aM76 v1 v3 s0 iM73 iM77 aM72 aM74 aM75 aM76) else ((f_M_put ((40 : Int32)) iM73 aM72).bind fun q39 => ((f_M_later ((1 : Int32)) ((41 : Int32)) ((0 : Int32)) iM77 aM74 aM75 aM76).bind fun q47 => (f_M_putOne_50 N iM73 iM77 aM7 aM8 aM9 aM10 aM23 aM24 aM26 aM27 aM72 aM74 aM75 aM76 v1 v3 s0 q39.1 q47.1 q39.2 q47.2.1 q47.2.2.1 q47.2.2.2)))
def f_M_putOne (N : Nat) (a1 : Int32) (a2 : Int32) (iM73 : Int32) (iM77 : Int32) (aM7 : Nat → Int32) (aM8 : Nat → Int32) (aM9 : Nat → Int32) (aM10 : Nat → Int32) (aM23 : Nat → Int32) (aM24 : Nat → Int32) (aM26 : Nat → Int32) (aM27 : Nat → Int32) (aM72 : Nat → Int32) (aM74 : Nat → Int32) (aM75 : Nat → Int32) (aM76 : Nat → Int32) : Option (Int32 × Int32 × (Nat → Int32) × (Nat → Int32) × (Nat → Int32) × (Nat → Int32)) := if a1 < 0 ∨ 400 ≤ a1.toNatClampNeg then none else (if (aM8 a1.toNatClampNeg) = (7 : Int32) then (f_M_putOne_28 N iM73 iM77 aM7 aM8 aM9 aM10 aM23 aM24 aM26 aM27 aM72 aM74 aM75 aM76 a1 a2 ((aM8 a1.toNatClampNeg)) ((1 : Int32))) else (if (aM8 a1.toNatClampNeg) = (6 : Int32) then (f_M_putOne_28 N iM73 iM77 aM7 aM8 aM9 aM10 aM23 aM24 aM26 aM27 aM72 aM74 aM75 aM76 a1 a2 ((aM8 a1.toNatClampNeg)) ((2 : Int32))) else (f_M_putOne_28 N iM73 iM77 aM7 aM8 aM9 aM10 aM23 aM24 aM26 aM27 aM72 aM74 aM75 aM76 a1 a2 ((aM8 a1.toNatClampNeg)) ((3 : Int32)))))
set_option maxHeartbeats 8000000 in
set_option maxRecDepth 100000 in
theorem c_M_putOne (l : Launch) (dC : Nat → ClassId) (dI : Nat → Nat → Nat) (cy : Nat → ClassId) (ad : Nat → Nat) (sz : Nat) (N : Nat) (a1 : Int32) (a2 : Int32) (iM : Nat → Int32) (aM : Nat → Nat → Int32) (q : Int32 × Int32 × (Nat → Int32) × (Nat → Int32) × (Nat → Int32) × (Nat → Int32)) (h : f_M_putOne N a1 a2 (iM 73) (iM 77) (aM 7) (aM 8) (aM 9) (aM 10) (aM 23) (aM 24) (aM 26) (aM 27) (aM 72) (aM 74) (aM 75) (aM 76) = some q) : Met l yX8_putOne wsX8_putOne ({ frames := 2, cells := 0, slots := 0, locals := 44 } : Room) (cP (dC, dI) cy [.ref (ad 0), .int a1, .int a2] (zzM ad cy iM aM) sz) (cQv (dC, dI) cy (zzM ad cy (us iM [(73, q.1), (77, q.2.1)]) (us aM [(72, q.2.2.1), (74, q.2.2.2.1), (75, q.2.2.2.2.1), (76, q.2.2.2.2.2)])) (va_A (zzM ad cy iM aM) sz)) 0 0 (va_A (zzM ad cy iM aM) sz) := by
  refine Met.ofW (cc := cX8_putOne) (maxL := 5) (ret := none) (by decide) rfl ?_
  intro p e s m args below meth c s₁ B hml hv
  obtain ⟨hav, hsz, hP, hK, hD0, hN⟩ := hv
  have hx := B.exec
  have hb := B.bytes
  have hr := B.returns
  have hts := atoms_spec (ws := wsX8_putOne) B.pre
  have hown : s.vm.findClass RX8 = some m.cls := findClass_of_methodNamed B.named
  have hlocks := B.notSynchronized
  subst hsz
  have hD := hD0.self (sz := s.heap.size)
  generalize hAe : va_A (zzM ad cy iM aM) s.heap.size = A at hD ⊢
  have hA : ∀ q : Nat, s.heap.size ≤ q → A q := fun q h => by rw [← hAe]; exact Or.inr h
  have hS : va_S A s.heap s.heap [] := va_S.rf
  generalize hWQ : (zzM ad cy (us iM [(73, q.1), (77, q.2.1)]) (us aM [(72, q.2.2.1), (74, q.2.2.2.1), (75, q.2.2.2.2.1), (76, q.2.2.2.2.2)])) = WQ
  generalize hQQ : MQ below (cQv (dC, dI) cy WQ A) args s 0 0 A = QQ
  have hl := lv_entry ([.ref (ad 0), .int a1, .int a2] : List Value) (n := 5) (Nat.le_of_ble_eq_true rfl)
  have hfr := lg_entry_eq m ([.ref (ad 0), .int a1, .int a2] : List Value) 5
  rw [← hav] at hfr
  rw [hfr]
  clear hfr hav
  generalize (lg_sl ([.ref (ad 0), .int a1, .int a2] : List Value) ++ List.replicate (5 - (lg_sl ([.ref (ad 0), .int a1, .int a2] : List Value)).length) Slot.unset).toArray = ls at hl ⊢
  have hl : lv_has ls 5 [(0, .ref (ad 0)), (1, .int a1), (2, .int a2)] := hl
  have kf24 := hts _ (List.mem_cons_of_mem _ m_fl_X8_24)
  have ki8 := (fun w h => List.mem_cons_of_mem _ (i_X8 w h) : ∀ w ∈ u_ws RX8 TX8 78, w ∈ wsX8_putOne)
  have kf21 := hts _ (List.mem_cons_of_mem _ m_fl_X8_21)
  have kf17 := hts _ (List.mem_cons_of_mem _ m_fl_X8_17)
  refine (?_ : ∀ (H : Heap) (locs : List Loc), va_P (dC, dI) vwCl (zzM ad cy iM aM) H → va_D A (zzM ad cy iM aM) → va_S A s.heap H locs → W p l e ({ frames := 2, cells := 0, slots := 0, locals := 44 } : Room) s m args below meth c H locs 0 0 QQ (F0 m 0 ls [])) s.heap [] hP hD hS
  clear hP hD hS
  have B90 : ∀ (s1 : Int32) (x_iM73 : Int32) (x_iM77 : Int32) (x_aM72 : Nat → Int32) (x_aM74 : Nat → Int32) (x_aM75 : Nat → Int32) (x_aM76 : Nat → Int32) (H : Heap) (locs : List Loc) (ls : Array Slot), f_M_putOne_90 N (iM 73) (iM 77) (aM 7) (aM 8) (aM 9) (aM 10) (aM 23) (aM 24) (aM 26) (aM 27) (aM 72) (aM 74) (aM 75) (aM 76) s1 x_iM73 x_iM77 x_aM72 x_aM74 x_aM75 x_aM76 = some q → va_P (dC, dI) vwCl (zzM ad cy (us iM [(73, x_iM73), (77, x_iM77)]) (us aM [(72, x_aM72), (74, x_aM74), (75, x_aM75), (76, x_aM76)])) H → va_D A (zzM ad cy (us iM [(73, x_iM73), (77, x_iM77)]) (us aM [(72, x_aM72), (74, x_aM74), (75, x_aM75), (76, x_aM76)])) → va_S A s.heap H locs → lv_has ls 5 [] → W p l e ({ frames := 2, cells := 0, slots := 0, locals := 44 } : Room) s m args below meth c H locs 0 0 QQ (F0 m 90 ls [.int s1, .ref (ad 0)]) := by
    intro s1 x_iM73 x_iM77 x_aM72 x_aM74 x_aM75 x_aM76 H locs ls h hP hD hS hl
    unfold f_M_putOne_90 at h
    obtain ⟨q90, e90, h⟩ := g_b h
    refine callVvs (cc := cX8_putOne) (w1 := zzM ad cy (us iM [(73, q90.1), (77, x_iM77)]) (us aM [(72, q90.2), (74, x_aM74), (75, x_aM75), (76, x_aM76)])) (As := [.int s1]) (rest := []) ⟨hx, hb, hml, hown, hts⟩ (c_M_putWord l dC dI cy ad H.size N s1 ((us iM [(73, x_iM73), (77, x_iM77)])) ((us aM [(72, x_aM72), (74, x_aM74), (75, x_aM75), (76, x_aM76)])) q90 e90) (cwV 1 hts (goodV m_ml_X8_449 m_im_X8_putWord m_se_X8_putWord m_in_X8 m_cd_X8_putWord) rfl rfl rfl (by decide +kernel) ⟨Nat.le_of_ble_eq_true rfl, Nat.le_of_ble_eq_true rfl⟩) hN hK hP hD hS hA rfl 0 rfl rfl rfl hl.1 rfl (Nat.le_of_ble_eq_true rfl) dX8_putOne_90 ⟨Nat.zero_le _, Nat.zero_le _⟩ (fun H locs hP hD hS => ?_)
    refine lv_goto (tgt := 230) hx hb dX8_putOne_93 (by decide) ?_
    have h' := Option.some.inj h
    rw [← hQQ]
    exact W.vret hx hb hr (fun t ht hW => ⟨⟨(), rfl, trivial, by rw [← hWQ, ← h', ht]; exact hP, va_K.moved hW.alike hK⟩, hS.F ht⟩) hS.2.2 dX8_putOne_230
  have B77 : ∀ (v3 : Int32) (x_iM73 : Int32) (x_iM77 : Int32) (x_aM72 : Nat → Int32) (x_aM74 : Nat → Int32) (x_aM75 : Nat → Int32) (x_aM76 : Nat → Int32) (H : Heap) (locs : List Loc) (ls : Array Slot), f_M_putOne_77 N (iM 73) (iM 77) (aM 7) (aM 8) (aM 9) (aM 10) (aM 23) (aM 24) (aM 26) (aM 27) (aM 72) (aM 74) (aM 75) (aM 76) v3 x_iM73 x_iM77 x_aM72 x_aM74 x_aM75 x_aM76 = some q → va_P (dC, dI) vwCl (zzM ad cy (us iM [(73, x_iM73), (77, x_iM77)]) (us aM [(72, x_aM72), (74, x_aM74), (75, x_aM75), (76, x_aM76)])) H → va_D A (zzM ad cy (us iM [(73, x_iM73), (77, x_iM77)]) (us aM [(72, x_aM72), (74, x_aM74), (75, x_aM75), (76, x_aM76)])) → va_S A s.heap H locs → lv_has ls 5 [(0, .ref (ad 0)), (3, .int v3)] → W p l e ({ frames := 2, cells := 0, slots := 0, locals := 44 } : Room) s m args below meth c H locs 0 0 QQ (F0 m 77 ls []) := by
    intro v3 x_iM73 x_iM77 x_aM72 x_aM74 x_aM75 x_aM76 H locs ls h hP hD hS hl
    unfold f_M_putOne_77 at h
    refine lv_aload_n hx hb dX8_putOne_77 rfl (lv_at hl 0 rfl) ?_
    refine lv_iload_n hx hb dX8_putOne_78 rfl (lv_at hl 1 rfl) ?_
    refine lv_iconst (v := 1) hx hb dX8_putOne_79 (by decide) ?_
    refine lv_icmp_ne (tgt := 88) hx hb dX8_putOne_80 (by decide) (fun cz => ?_) (fun cz => ?_)
    · have h := g_f h cz
      refine lv_bipush (v := 9) hx hb dX8_putOne_88 (by decide) ?_
      exact B90 ((9 : Int32)) x_iM73 x_iM77 x_aM72 x_aM74 x_aM75 x_aM76 H locs ls h hP hD hS (lv_sub hl [] rfl)
    · have h := g_t h cz
      refine lv_bipush (v := 8) hx hb dX8_putOne_83 (by decide) ?_
      refine lv_goto (tgt := 90) hx hb dX8_putOne_85 (by decide) ?_
      exact B90 ((8 : Int32)) x_iM73 x_iM77 x_aM72 x_aM74 x_aM75 x_aM76 H locs ls h hP hD hS (lv_sub hl [] rfl)
  have B154 : ∀ (v1 : Int32) (x_iM73 : Int32) (x_iM77 : Int32) (x_aM72 : Nat → Int32) (x_aM74 : Nat → Int32) (x_aM75 : Nat → Int32) (x_aM76 : Nat → Int32) (H : Heap) (locs : List Loc) (ls : Array Slot), f_M_putOne_154 N (iM 73) (iM 77) (aM 7) (aM 8) (aM 9) (aM 10) (aM 23) (aM 24) (aM 26) (aM 27) (aM 72) (aM 74) (aM 75) (aM 76) v1 x_iM73 x_iM77 x_aM72 x_aM74 x_aM75 x_aM76 = some q → va_P (dC, dI) vwCl (zzM ad cy (us iM [(73, x_iM73), (77, x_iM77)]) (us aM [(72, x_aM72), (74, x_aM74), (75, x_aM75), (76, x_aM76)])) H → va_D A (zzM ad cy (us iM [(73, x_iM73), (77, x_iM77)]) (us aM [(72, x_aM72), (74, x_aM74), (75, x_aM75), (76, x_aM76)])) → va_S A s.heap H locs → lv_has ls 5 [(0, .ref (ad 0)), (1, .int v1)] → W p l e ({ frames := 2, cells := 0, slots := 0, locals := 44 } : Room) s m args below meth c H locs 0 0 QQ (F0 m 154 ls []) := by
    intro v1 x_iM73 x_iM77 x_aM72 x_aM74 x_aM75 x_aM76 H locs ls h hP hD hS hl
    unfold f_M_putOne_154 at h
    refine lv_aload_n hx hb dX8_putOne_154 rfl (lv_at hl 0 rfl) ?_
    refine lv_iconst (v := 0) hx hb dX8_putOne_155 (by decide) ?_
    refine lv_aload_n hx hb dX8_putOne_156 rfl (lv_at hl 0 rfl) ?_
    refine va_get (D := (dC, dI)) (ci := 8) (v := .ref (ad 5)) (C := RX8) (T := TX8) (N := 78) hx hb hts ki8 hown hK hP 0 rfl rfl 10 (by decide) kf24 (fun _ h9 => h9) rfl dX8_putOne_157 ?_
    refine lv_iload_n hx hb dX8_putOne_160 rfl (lv_at hl 1 rfl) ?_
    obtain ⟨g_62, h⟩ := g_n h
    refine va_iald (f := (aM 10)) hx hb hK hP 5 0 rfl rfl g_62 dX8_putOne_161 ?_
    refine lv_iconst (v := 3) hx hb dX8_putOne_162 (by decide) ?_
    obtain ⟨q163, e163, h⟩ := g_b h
    refine callVvs (cc := cX8_putOne) (w1 := zzM ad cy (us iM [(73, x_iM73), (77, q163.1)]) (us aM [(72, x_aM72), (74, q163.2.1), (75, q163.2.2.1), (76, q163.2.2.2)])) (As := [.int ((0 : Int32)), .int (((aM 10) v1.toNatClampNeg)), .int ((3 : Int32))]) (rest := []) ⟨hx, hb, hml, hown, hts⟩ (c_M_later l dC dI cy ad H.size ((0 : Int32)) (((aM 10) v1.toNatClampNeg)) ((3 : Int32)) ((us iM [(73, x_iM73), (77, x_iM77)])) ((us aM [(72, x_aM72), (74, x_aM74), (75, x_aM75), (76, x_aM76)])) q163 e163) (cwV 3 hts (goodV m_ml_X8_443 m_im_X8_later m_se_X8_later m_in_X8 m_cd_X8_later) rfl rfl rfl (by decide +kernel) ⟨Nat.le_of_ble_eq_true rfl, Nat.le_of_ble_eq_true rfl⟩) hN hK hP hD hS hA rfl 0 rfl rfl rfl hl.1 rfl (Nat.le_of_ble_eq_true rfl) dX8_putOne_163 ⟨Nat.zero_le _, Nat.zero_le _⟩ (fun H locs hP hD hS => ?_)
    refine lv_goto (tgt := 230) hx hb dX8_putOne_166 (by decide) ?_
    have h' := Option.some.inj h
    rw [← hQQ]
    exact W.vret hx hb hr (fun t ht hW => ⟨⟨(), rfl, trivial, by rw [← hWQ, ← h', ht]; exact hP, va_K.moved hW.alike hK⟩, hS.F ht⟩) hS.2.2 dX8_putOne_230
  have B124 : ∀ (v1 : Int32) (v3 : Int32) (s1 : Int32) (x_iM73 : Int32) (x_iM77 : Int32) (x_aM72 : Nat → Int32) (x_aM74 : Nat → Int32) (x_aM75 : Nat → Int32) (x_aM76 : Nat → Int32) (H : Heap) (locs : List Loc) (ls : Array Slot), f_M_putOne_124 N (iM 73) (iM 77) (aM 7) (aM 8) (aM 9) (aM 10) (aM 23) (aM 24) (aM 26) (aM 27) (aM 72) (aM 74) (aM 75) (aM 76) v1 v3 s1 x_iM73 x_iM77 x_aM72 x_aM74 x_aM75 x_aM76 = some q → va_P (dC, dI) vwCl (zzM ad cy (us iM [(73, x_iM73), (77, x_iM77)]) (us aM [(72, x_aM72), (74, x_aM74), (75, x_aM75), (76, x_aM76)])) H → va_D A (zzM ad cy (us iM [(73, x_iM73), (77, x_iM77)]) (us aM [(72, x_aM72), (74, x_aM74), (75, x_aM75), (76, x_aM76)])) → va_S A s.heap H locs → lv_has ls 5 [(0, .ref (ad 0)), (1, .int v1), (3, .int v3)] → W p l e ({ frames := 2, cells := 0, slots := 0, locals := 44 } : Room) s m args below meth c H locs 0 0 QQ (F0 m 124 ls [.int s1, .ref (ad 0)]) := by
    intro v1 v3 s1 x_iM73 x_iM77 x_aM72 x_aM74 x_aM75 x_aM76 H locs ls h hP hD hS hl
    unfold f_M_putOne_124 at h
    obtain ⟨q124, e124, h⟩ := g_b h
    refine callVvs (cc := cX8_putOne) (w1 := zzM ad cy (us iM [(73, q124.1), (77, x_iM77)]) (us aM [(72, q124.2), (74, x_aM74), (75, x_aM75), (76, x_aM76)])) (As := [.int s1]) (rest := []) ⟨hx, hb, hml, hown, hts⟩ (c_M_putWord l dC dI cy ad H.size N s1 ((us iM [(73, x_iM73), (77, x_iM77)])) ((us aM [(72, x_aM72), (74, x_aM74), (75, x_aM75), (76, x_aM76)])) q124 e124) (cwV 1 hts (goodV m_ml_X8_449 m_im_X8_putWord m_se_X8_putWord m_in_X8 m_cd_X8_putWord) rfl rfl rfl (by decide +kernel) ⟨Nat.le_of_ble_eq_true rfl, Nat.le_of_ble_eq_true rfl⟩) hN hK hP hD hS hA rfl 0 rfl rfl rfl hl.1 rfl (Nat.le_of_ble_eq_true rfl) dX8_putOne_124 ⟨Nat.zero_le _, Nat.zero_le _⟩ (fun H locs hP hD hS => ?_)
    refine lv_aload_n hx hb dX8_putOne_127 rfl (lv_at hl 0 rfl) ?_
    refine lv_bipush (v := 32) hx hb dX8_putOne_128 (by decide) ?_
    obtain ⟨q130, e130, h⟩ := g_b h
    refine callVvs (cc := cX8_putOne) (w1 := zzM ad cy (us iM [(73, q130.1), (77, x_iM77)]) (us aM [(72, q130.2), (74, x_aM74), (75, x_aM75), (76, x_aM76)])) (As := [.int ((32 : Int32))]) (rest := []) ⟨hx, hb, hml, hown, hts⟩ (c_M_put l dC dI cy ad H.size ((32 : Int32)) ((us iM [(73, q124.1), (77, x_iM77)])) ((us aM [(72, q124.2), (74, x_aM74), (75, x_aM75), (76, x_aM76)])) q130 e130) (cwV 1 hts (goodV m_ml_X8_441 m_im_X8_put m_se_X8_put m_in_X8 m_cd_X8_put) rfl rfl rfl (by decide +kernel) ⟨Nat.le_of_ble_eq_true rfl, Nat.le_of_ble_eq_true rfl⟩) hN hK hP hD hS hA rfl 0 rfl rfl rfl hl.1 rfl (Nat.le_of_ble_eq_true rfl) dX8_putOne_130 ⟨Nat.zero_le _, Nat.zero_le _⟩ (fun H locs hP hD hS => ?_)
    refine lv_iload_n hx hb dX8_putOne_133 rfl (lv_at hl 2 rfl) ?_
    refine lv_iconst (v := 3) hx hb dX8_putOne_134 (by decide) ?_
    refine lv_icmp_eq (tgt := 154) hx hb dX8_putOne_135 (by decide) (fun cz => ?_) (fun cz => ?_)
    · have h := g_t h cz
      exact B154 v1 q130.1 x_iM77 q130.2 x_aM74 x_aM75 x_aM76 H locs ls h hP hD hS (lv_sub hl [0, 1] rfl)
    · have h := g_f h cz
      refine lv_aload_n hx hb dX8_putOne_138 rfl (lv_at hl 0 rfl) ?_
      refine lv_aload_n hx hb dX8_putOne_139 rfl (lv_at hl 0 rfl) ?_
      refine va_get (D := (dC, dI)) (ci := 8) (v := .ref (ad 4)) (C := RX8) (T := TX8) (N := 78) hx hb hts ki8 hown hK hP 0 rfl rfl 9 (by decide) kf21 (fun _ h9 => h9) rfl dX8_putOne_140 ?_
      refine lv_iload_n hx hb dX8_putOne_143 rfl (lv_at hl 1 rfl) ?_
      obtain ⟨g_62, h⟩ := g_n h
      refine va_iald (f := (aM 9)) hx hb hK hP 4 0 rfl rfl g_62 dX8_putOne_144 ?_
      obtain ⟨q145, e145, h⟩ := g_b h
      refine callVvs (cc := cX8_putOne) (w1 := zzM ad cy (us iM [(73, q145.1), (77, x_iM77)]) (us aM [(72, q145.2), (74, x_aM74), (75, x_aM75), (76, x_aM76)])) (As := [.int (((aM 9) v1.toNatClampNeg))]) (rest := []) ⟨hx, hb, hml, hown, hts⟩ (c_M_putRole l dC dI cy ad H.size N (((aM 9) v1.toNatClampNeg)) ((us iM [(73, q130.1), (77, x_iM77)])) ((us aM [(72, q130.2), (74, x_aM74), (75, x_aM75), (76, x_aM76)])) q145 e145) (cwV 1 hts (goodV m_ml_X8_452 m_im_X8_putRole m_se_X8_putRole m_in_X8 m_cd_X8_putRole) rfl rfl rfl (by decide +kernel) ⟨Nat.le_of_ble_eq_true rfl, Nat.le_of_ble_eq_true rfl⟩) hN hK hP hD hS hA rfl 0 rfl rfl rfl hl.1 rfl (Nat.le_of_ble_eq_true rfl) dX8_putOne_145 ⟨Nat.zero_le _, Nat.zero_le _⟩ (fun H locs hP hD hS => ?_)
      refine lv_aload_n hx hb dX8_putOne_148 rfl (lv_at hl 0 rfl) ?_
      refine lv_bipush (v := 32) hx hb dX8_putOne_149 (by decide) ?_
      obtain ⟨q151, e151, h⟩ := g_b h
      refine callVvs (cc := cX8_putOne) (w1 := zzM ad cy (us iM [(73, q151.1), (77, x_iM77)]) (us aM [(72, q151.2), (74, x_aM74), (75, x_aM75), (76, x_aM76)])) (As := [.int ((32 : Int32))]) (rest := []) ⟨hx, hb, hml, hown, hts⟩ (c_M_put l dC dI cy ad H.size ((32 : Int32)) ((us iM [(73, q145.1), (77, x_iM77)])) ((us aM [(72, q145.2), (74, x_aM74), (75, x_aM75), (76, x_aM76)])) q151 e151) (cwV 1 hts (goodV m_ml_X8_441 m_im_X8_put m_se_X8_put m_in_X8 m_cd_X8_put) rfl rfl rfl (by decide +kernel) ⟨Nat.le_of_ble_eq_true rfl, Nat.le_of_ble_eq_true rfl⟩) hN hK hP hD hS hA rfl 0 rfl rfl rfl hl.1 rfl (Nat.le_of_ble_eq_true rfl) dX8_putOne_151 ⟨Nat.zero_le _, Nat.zero_le _⟩ (fun H locs hP hD hS => ?_)
      exact B154 v1 q151.1 x_iM77 q151.2 x_aM74 x_aM75 x_aM76 H locs ls h hP hD hS (lv_sub hl [0, 1] rfl)
  have B205 : ∀ (v1 : Int32) (v4 : Int32) (s1 : Int32) (s2 : Int32) (x_iM73 : Int32) (x_iM77 : Int32) (x_aM72 : Nat → Int32) (x_aM74 : Nat → Int32) (x_aM75 : Nat → Int32) (x_aM76 : Nat → Int32) (H : Heap) (locs : List Loc) (ls : Array Slot), f_M_putOne_205 N (iM 73) (iM 77) (aM 7) (aM 8) (aM 9) (aM 10) (aM 23) (aM 24) (aM 26) (aM 27) (aM 72) (aM 74) (aM 75) (aM 76) v1 v4 s1 s2 x_iM73 x_iM77 x_aM72 x_aM74 x_aM75 x_aM76 = some q → va_P (dC, dI) vwCl (zzM ad cy (us iM [(73, x_iM73), (77, x_iM77)]) (us aM [(72, x_aM72), (74, x_aM74), (75, x_aM75), (76, x_aM76)])) H → va_D A (zzM ad cy (us iM [(73, x_iM73), (77, x_iM77)]) (us aM [(72, x_aM72), (74, x_aM74), (75, x_aM75), (76, x_aM76)])) → va_S A s.heap H locs → lv_has ls 5 [(0, .ref (ad 0)), (1, .int v1), (4, .int v4)] → W p l e ({ frames := 2, cells := 0, slots := 0, locals := 44 } : Room) s m args below meth c H locs 0 0 QQ (F0 m 205 ls [.int s2, .int s1, .ref (ad 0)]) := by
    intro v1 v4 s1 s2 x_iM73 x_iM77 x_aM72 x_aM74 x_aM75 x_aM76 H locs ls h hP hD hS hl
    unfold f_M_putOne_205 at h
    refine lv_iconst (v := 0) hx hb dX8_putOne_205 (by decide) ?_
    obtain ⟨q206, e206, h⟩ := g_b h
    refine callVvs (cc := cX8_putOne) (w1 := zzM ad cy (us iM [(73, x_iM73), (77, q206.1)]) (us aM [(72, x_aM72), (74, q206.2.1), (75, q206.2.2.1), (76, q206.2.2.2)])) (As := [.int s1, .int s2, .int ((0 : Int32))]) (rest := []) ⟨hx, hb, hml, hown, hts⟩ (c_M_later l dC dI cy ad H.size s1 s2 ((0 : Int32)) ((us iM [(73, x_iM73), (77, x_iM77)])) ((us aM [(72, x_aM72), (74, x_aM74), (75, x_aM75), (76, x_aM76)])) q206 e206) (cwV 3 hts (goodV m_ml_X8_443 m_im_X8_later m_se_X8_later m_in_X8 m_cd_X8_later) rfl rfl rfl (by decide +kernel) ⟨Nat.le_of_ble_eq_true rfl, Nat.le_of_ble_eq_true rfl⟩) hN hK hP hD hS hA rfl 0 rfl rfl rfl hl.1 rfl (Nat.le_of_ble_eq_true rfl) dX8_putOne_206 ⟨Nat.zero_le _, Nat.zero_le _⟩ (fun H locs hP hD hS => ?_)
    refine lv_aload_n hx hb dX8_putOne_209 rfl (lv_at hl 0 rfl) ?_
    refine lv_iconst (v := 1) hx hb dX8_putOne_210 (by decide) ?_
    refine lv_bipush (v := 32) hx hb dX8_putOne_211 (by decide) ?_
    refine lv_iconst (v := 0) hx hb dX8_putOne_213 (by decide) ?_
    obtain ⟨q214, e214, h⟩ := g_b h
    refine callVvs (cc := cX8_putOne) (w1 := zzM ad cy (us iM [(73, x_iM73), (77, q214.1)]) (us aM [(72, x_aM72), (74, q214.2.1), (75, q214.2.2.1), (76, q214.2.2.2)])) (As := [.int ((1 : Int32)), .int ((32 : Int32)), .int ((0 : Int32))]) (rest := []) ⟨hx, hb, hml, hown, hts⟩ (c_M_later l dC dI cy ad H.size ((1 : Int32)) ((32 : Int32)) ((0 : Int32)) ((us iM [(73, x_iM73), (77, q206.1)])) ((us aM [(72, x_aM72), (74, q206.2.1), (75, q206.2.2.1), (76, q206.2.2.2)])) q214 e214) (cwV 3 hts (goodV m_ml_X8_443 m_im_X8_later m_se_X8_later m_in_X8 m_cd_X8_later) rfl rfl rfl (by decide +kernel) ⟨Nat.le_of_ble_eq_true rfl, Nat.le_of_ble_eq_true rfl⟩) hN hK hP hD hS hA rfl 0 rfl rfl rfl hl.1 rfl (Nat.le_of_ble_eq_true rfl) dX8_putOne_214 ⟨Nat.zero_le _, Nat.zero_le _⟩ (fun H locs hP hD hS => ?_)
    refine lv_aload_n hx hb dX8_putOne_217 rfl (lv_at hl 0 rfl) ?_
    refine lv_iconst (v := 0) hx hb dX8_putOne_218 (by decide) ?_
    refine lv_aload_n hx hb dX8_putOne_219 rfl (lv_at hl 0 rfl) ?_
    refine va_get (D := (dC, dI)) (ci := 8) (v := .ref (ad 4)) (C := RX8) (T := TX8) (N := 78) hx hb hts ki8 hown hK hP 0 rfl rfl 9 (by decide) kf21 (fun _ h9 => h9) rfl dX8_putOne_220 ?_
    refine lv_iload_n hx hb dX8_putOne_223 rfl (lv_at hl 1 rfl) ?_
    obtain ⟨g_62, h⟩ := g_n h
    refine va_iald (f := (aM 9)) hx hb hK hP 4 0 rfl rfl g_62 dX8_putOne_224 ?_
    refine lv_iload hx hb dX8_putOne_225 (lv_at hl 2 rfl) ?_
    obtain ⟨q227, e227, h⟩ := g_b h
    refine callVvs (cc := cX8_putOne) (w1 := zzM ad cy (us iM [(73, x_iM73), (77, q227.1)]) (us aM [(72, x_aM72), (74, q227.2.1), (75, q227.2.2.1), (76, q227.2.2.2)])) (As := [.int ((0 : Int32)), .int (((aM 9) v1.toNatClampNeg)), .int v4]) (rest := []) ⟨hx, hb, hml, hown, hts⟩ (c_M_later l dC dI cy ad H.size ((0 : Int32)) (((aM 9) v1.toNatClampNeg)) v4 ((us iM [(73, x_iM73), (77, q214.1)])) ((us aM [(72, x_aM72), (74, q214.2.1), (75, q214.2.2.1), (76, q214.2.2.2)])) q227 e227) (cwV 3 hts (goodV m_ml_X8_443 m_im_X8_later m_se_X8_later m_in_X8 m_cd_X8_later) rfl rfl rfl (by decide +kernel) ⟨Nat.le_of_ble_eq_true rfl, Nat.le_of_ble_eq_true rfl⟩) hN hK hP hD hS hA rfl 0 rfl rfl rfl hl.1 rfl (Nat.le_of_ble_eq_true rfl) dX8_putOne_227 ⟨Nat.zero_le _, Nat.zero_le _⟩ (fun H locs hP hD hS => ?_)
    have h' := Option.some.inj h
    rw [← hQQ]
    exact W.vret hx hb hr (fun t ht hW => ⟨⟨(), rfl, trivial, by rw [← hWQ, ← h', ht]; exact hP, va_K.moved hW.alike hK⟩, hS.F ht⟩) hS.2.2 dX8_putOne_230
  have B50 : ∀ (v1 : Int32) (v3 : Int32) (v4 : Int32) (x_iM73 : Int32) (x_iM77 : Int32) (x_aM72 : Nat → Int32) (x_aM74 : Nat → Int32) (x_aM75 : Nat → Int32) (x_aM76 : Nat → Int32) (H : Heap) (locs : List Loc) (ls : Array Slot), f_M_putOne_50 N (iM 73) (iM 77) (aM 7) (aM 8) (aM 9) (aM 10) (aM 23) (aM 24) (aM 26) (aM 27) (aM 72) (aM 74) (aM 75) (aM 76) v1 v3 v4 x_iM73 x_iM77 x_aM72 x_aM74 x_aM75 x_aM76 = some q → va_P (dC, dI) vwCl (zzM ad cy (us iM [(73, x_iM73), (77, x_iM77)]) (us aM [(72, x_aM72), (74, x_aM74), (75, x_aM75), (76, x_aM76)])) H → va_D A (zzM ad cy (us iM [(73, x_iM73), (77, x_iM77)]) (us aM [(72, x_aM72), (74, x_aM74), (75, x_aM75), (76, x_aM76)])) → va_S A s.heap H locs → lv_has ls 5 [(0, .ref (ad 0)), (1, .int v1), (3, .int v3), (4, .int v4)] → W p l e ({ frames := 2, cells := 0, slots := 0, locals := 44 } : Room) s m args below meth c H locs 0 0 QQ (F0 m 50 ls []) := by
    intro v1 v3 v4 x_iM73 x_iM77 x_aM72 x_aM74 x_aM75 x_aM76 H locs ls h hP hD hS hl
    unfold f_M_putOne_50 at h
    refine lv_iload_n hx hb dX8_putOne_50 rfl (lv_at hl 2 rfl) ?_
    refine lv_if_ne (tgt := 67) hx hb dX8_putOne_51 (by decide) (fun cz => ?_) (fun cz => ?_)
    · have h := g_f h cz
      refine lv_iload_n hx hb dX8_putOne_67 rfl (lv_at hl 2 rfl) ?_
      refine lv_iconst (v := 1) hx hb dX8_putOne_68 (by decide) ?_
      refine lv_icmp_eq (tgt := 77) hx hb dX8_putOne_69 (by decide) (fun cz => ?_) (fun cz => ?_)
      · have h := g_t h cz
        exact B77 v3 x_iM73 x_iM77 x_aM72 x_aM74 x_aM75 x_aM76 H locs ls h hP hD hS (lv_sub hl [0, 2] rfl)
      · have h := g_f h cz
        refine lv_iload_n hx hb dX8_putOne_72 rfl (lv_at hl 2 rfl) ?_
        refine lv_iconst (v := 2) hx hb dX8_putOne_73 (by decide) ?_
        refine lv_icmp_ne (tgt := 96) hx hb dX8_putOne_74 (by decide) (fun cz => ?_) (fun cz => ?_)
        · have h := g_f h cz
          refine lv_iload_n hx hb dX8_putOne_96 rfl (lv_at hl 2 rfl) ?_
          refine lv_bipush (v := 6) hx hb dX8_putOne_97 (by decide) ?_
          refine lv_icmp_ge (tgt := 169) hx hb dX8_putOne_99 (by decide) (fun cz => ?_) (fun cz => ?_)
          · have h := g_t h cz
            refine lv_aload_n hx hb dX8_putOne_169 rfl (lv_at hl 0 rfl) ?_
            refine lv_iconst (v := 0) hx hb dX8_putOne_170 (by decide) ?_
            refine lv_aload_n hx hb dX8_putOne_171 rfl (lv_at hl 0 rfl) ?_
            refine va_get (D := (dC, dI)) (ci := 8) (v := .ref (ad 5)) (C := RX8) (T := TX8) (N := 78) hx hb hts ki8 hown hK hP 0 rfl rfl 10 (by decide) kf24 (fun _ h9 => h9) rfl dX8_putOne_172 ?_
            refine lv_iload_n hx hb dX8_putOne_175 rfl (lv_at hl 1 rfl) ?_
            obtain ⟨g_62, h⟩ := g_n h
            refine va_iald (f := (aM 10)) hx hb hK hP 5 0 rfl rfl g_62 dX8_putOne_176 ?_
            refine lv_iload hx hb dX8_putOne_177 (lv_at hl 3 rfl) ?_
            refine lv_iconst (v := 1) hx hb dX8_putOne_179 (by decide) ?_
            refine lv_iadd hx hb dX8_putOne_180 ?_
            obtain ⟨q181, e181, h⟩ := g_b h
            refine callVvs (cc := cX8_putOne) (w1 := zzM ad cy (us iM [(73, x_iM73), (77, q181.1)]) (us aM [(72, x_aM72), (74, q181.2.1), (75, q181.2.2.1), (76, q181.2.2.2)])) (As := [.int ((0 : Int32)), .int (((aM 10) v1.toNatClampNeg)), .int ((v4 + (1 : Int32)))]) (rest := []) ⟨hx, hb, hml, hown, hts⟩ (c_M_later l dC dI cy ad H.size ((0 : Int32)) (((aM 10) v1.toNatClampNeg)) ((v4 + (1 : Int32))) ((us iM [(73, x_iM73), (77, x_iM77)])) ((us aM [(72, x_aM72), (74, x_aM74), (75, x_aM75), (76, x_aM76)])) q181 e181) (cwV 3 hts (goodV m_ml_X8_443 m_im_X8_later m_se_X8_later m_in_X8 m_cd_X8_later) rfl rfl rfl (by decide +kernel) ⟨Nat.le_of_ble_eq_true rfl, Nat.le_of_ble_eq_true rfl⟩) hN hK hP hD hS hA rfl 0 rfl rfl rfl hl.1 rfl (Nat.le_of_ble_eq_true rfl) dX8_putOne_181 ⟨Nat.zero_le _, Nat.zero_le _⟩ (fun H locs hP hD hS => ?_)
            refine lv_aload_n hx hb dX8_putOne_184 rfl (lv_at hl 0 rfl) ?_
            refine lv_iconst (v := 1) hx hb dX8_putOne_185 (by decide) ?_
            refine lv_bipush (v := 32) hx hb dX8_putOne_186 (by decide) ?_
            refine lv_iconst (v := 0) hx hb dX8_putOne_188 (by decide) ?_
            obtain ⟨q189, e189, h⟩ := g_b h
            refine callVvs (cc := cX8_putOne) (w1 := zzM ad cy (us iM [(73, x_iM73), (77, q189.1)]) (us aM [(72, x_aM72), (74, q189.2.1), (75, q189.2.2.1), (76, q189.2.2.2)])) (As := [.int ((1 : Int32)), .int ((32 : Int32)), .int ((0 : Int32))]) (rest := []) ⟨hx, hb, hml, hown, hts⟩ (c_M_later l dC dI cy ad H.size ((1 : Int32)) ((32 : Int32)) ((0 : Int32)) ((us iM [(73, x_iM73), (77, q181.1)])) ((us aM [(72, x_aM72), (74, q181.2.1), (75, q181.2.2.1), (76, q181.2.2.2)])) q189 e189) (cwV 3 hts (goodV m_ml_X8_443 m_im_X8_later m_se_X8_later m_in_X8 m_cd_X8_later) rfl rfl rfl (by decide +kernel) ⟨Nat.le_of_ble_eq_true rfl, Nat.le_of_ble_eq_true rfl⟩) hN hK hP hD hS hA rfl 0 rfl rfl rfl hl.1 rfl (Nat.le_of_ble_eq_true rfl) dX8_putOne_189 ⟨Nat.zero_le _, Nat.zero_le _⟩ (fun H locs hP hD hS => ?_)
            refine lv_aload_n hx hb dX8_putOne_192 rfl (lv_at hl 0 rfl) ?_
            refine lv_iconst (v := 2) hx hb dX8_putOne_193 (by decide) ?_
            refine lv_iload_n hx hb dX8_putOne_194 rfl (lv_at hl 2 rfl) ?_
            refine lv_bipush (v := 6) hx hb dX8_putOne_195 (by decide) ?_
            refine lv_icmp_ne (tgt := 204) hx hb dX8_putOne_197 (by decide) (fun cz => ?_) (fun cz => ?_)
            · have h := g_f h cz
              refine lv_iconst (v := 3) hx hb dX8_putOne_204 (by decide) ?_
              exact B205 v1 v4 ((2 : Int32)) ((3 : Int32)) x_iM73 q189.1 x_aM72 q189.2.1 q189.2.2.1 q189.2.2.2 H locs ls h hP hD hS (lv_sub hl [0, 1, 3] rfl)
            · have h := g_t h cz
              refine lv_iconst (v := 4) hx hb dX8_putOne_200 (by decide) ?_
              refine lv_goto (tgt := 205) hx hb dX8_putOne_201 (by decide) ?_
              exact B205 v1 v4 ((2 : Int32)) ((4 : Int32)) x_iM73 q189.1 x_aM72 q189.2.1 q189.2.2.1 q189.2.2.2 H locs ls h hP hD hS (lv_sub hl [0, 1, 3] rfl)
          · have h := g_f h cz
            refine lv_aload_n hx hb dX8_putOne_102 rfl (lv_at hl 0 rfl) ?_
            refine lv_iload_n hx hb dX8_putOne_103 rfl (lv_at hl 2 rfl) ?_
            refine lv_iconst (v := 3) hx hb dX8_putOne_104 (by decide) ?_
            refine lv_icmp_ne (tgt := 112) hx hb dX8_putOne_105 (by decide) (fun cz => ?_) (fun cz => ?_)
            · have h := g_f h cz
              refine lv_iload_n hx hb dX8_putOne_112 rfl (lv_at hl 2 rfl) ?_
              refine lv_iconst (v := 4) hx hb dX8_putOne_113 (by decide) ?_
              refine lv_icmp_ne (tgt := 122) hx hb dX8_putOne_114 (by decide) (fun cz => ?_) (fun cz => ?_)
              · have h := g_f h cz
                refine lv_bipush (v := 7) hx hb dX8_putOne_122 (by decide) ?_
                exact B124 v1 v3 ((7 : Int32)) x_iM73 x_iM77 x_aM72 x_aM74 x_aM75 x_aM76 H locs ls h hP hD hS (lv_sub hl [0, 1, 2] rfl)
              · have h := g_t h cz
                refine lv_bipush (v := 6) hx hb dX8_putOne_117 (by decide) ?_
                refine lv_goto (tgt := 124) hx hb dX8_putOne_119 (by decide) ?_
                exact B124 v1 v3 ((6 : Int32)) x_iM73 x_iM77 x_aM72 x_aM74 x_aM75 x_aM76 H locs ls h hP hD hS (lv_sub hl [0, 1, 2] rfl)
            · have h := g_t h cz
              refine lv_iconst (v := 5) hx hb dX8_putOne_108 (by decide) ?_
              refine lv_goto (tgt := 124) hx hb dX8_putOne_109 (by decide) ?_
              exact B124 v1 v3 ((5 : Int32)) x_iM73 x_iM77 x_aM72 x_aM74 x_aM75 x_aM76 H locs ls h hP hD hS (lv_sub hl [0, 1, 2] rfl)
        · have h := g_t h cz
          exact B77 v3 x_iM73 x_iM77 x_aM72 x_aM74 x_aM75 x_aM76 H locs ls h hP hD hS (lv_sub hl [0, 2] rfl)
    · have h := g_t h cz
      refine lv_aload_n hx hb dX8_putOne_54 rfl (lv_at hl 0 rfl) ?_
      refine lv_aload_n hx hb dX8_putOne_55 rfl (lv_at hl 0 rfl) ?_
      refine va_get (D := (dC, dI)) (ci := 8) (v := .ref (ad 4)) (C := RX8) (T := TX8) (N := 78) hx hb hts ki8 hown hK hP 0 rfl rfl 9 (by decide) kf21 (fun _ h9 => h9) rfl dX8_putOne_56 ?_
      refine lv_iload_n hx hb dX8_putOne_59 rfl (lv_at hl 1 rfl) ?_
      obtain ⟨g_62, h⟩ := g_n h
      refine va_iald (f := (aM 9)) hx hb hK hP 4 0 rfl rfl g_62 dX8_putOne_60 ?_
      obtain ⟨q61, e61, h⟩ := g_b h
      refine callVvs (cc := cX8_putOne) (w1 := zzM ad cy (us iM [(73, q61.1), (77, x_iM77)]) (us aM [(72, q61.2), (74, x_aM74), (75, x_aM75), (76, x_aM76)])) (As := [.int (((aM 9) v1.toNatClampNeg))]) (rest := []) ⟨hx, hb, hml, hown, hts⟩ (c_M_putName l dC dI cy ad H.size N (((aM 9) v1.toNatClampNeg)) ((us iM [(73, x_iM73), (77, x_iM77)])) ((us aM [(72, x_aM72), (74, x_aM74), (75, x_aM75), (76, x_aM76)])) q61 e61) (cwV 1 hts (goodV m_ml_X8_446 m_im_X8_putName m_se_X8_putName m_in_X8 m_cd_X8_putName) rfl rfl rfl (by decide +kernel) ⟨Nat.le_of_ble_eq_true rfl, Nat.le_of_ble_eq_true rfl⟩) hN hK hP hD hS hA rfl 0 rfl rfl rfl hl.1 rfl (Nat.le_of_ble_eq_true rfl) dX8_putOne_61 ⟨Nat.zero_le _, Nat.zero_le _⟩ (fun H locs hP hD hS => ?_)
      refine lv_goto (tgt := 230) hx hb dX8_putOne_64 (by decide) ?_
      have h' := Option.some.inj h
      rw [← hQQ]
      exact W.vret hx hb hr (fun t ht hW => ⟨⟨(), rfl, trivial, by rw [← hWQ, ← h', ht]; exact hP, va_K.moved hW.alike hK⟩, hS.F ht⟩) hS.2.2 dX8_putOne_230
  have B28 : ∀ (v1 : Int32) (v2 : Int32) (v3 : Int32) (s0 : Int32) (H : Heap) (locs : List Loc) (ls : Array Slot), f_M_putOne_28 N (iM 73) (iM 77) (aM 7) (aM 8) (aM 9) (aM 10) (aM 23) (aM 24) (aM 26) (aM 27) (aM 72) (aM 74) (aM 75) (aM 76) v1 v2 v3 s0 = some q → va_P (dC, dI) vwCl (zzM ad cy iM aM) H → va_D A (zzM ad cy iM aM) → va_S A s.heap H locs → lv_has ls 5 [(0, .ref (ad 0)), (1, .int v1), (2, .int v2), (3, .int v3)] → W p l e ({ frames := 2, cells := 0, slots := 0, locals := 44 } : Room) s m args below meth c H locs 0 0 QQ (F0 m 28 ls [.int s0]) := by
    intro v1 v2 v3 s0 H locs ls h hP hD hS hl
    unfold f_M_putOne_28 at h
    refine lv_istore (lv' := [(4, .int s0), (0, .ref (ad 0)), (1, .int v1), (2, .int v2), (3, .int v3)]) hx hb dX8_putOne_28 hl (by decide) rfl (fun ls hl => ?_)
    refine lv_iload hx hb dX8_putOne_30 (lv_at hl 0 rfl) ?_
    refine lv_iload_n hx hb dX8_putOne_32 rfl (lv_at hl 3 rfl) ?_
    refine lv_icmp_ge (tgt := 50) hx hb dX8_putOne_33 (by decide) (fun cz => ?_) (fun cz => ?_)
    · have h := g_t h cz
      exact B50 v1 v3 s0 (iM 73) (iM 77) (aM 72) (aM 74) (aM 75) (aM 76) H locs ls h hP hD hS (lv_sub hl [1, 2, 4, 0] rfl)
    · have h := g_f h cz
      refine lv_aload_n hx hb dX8_putOne_36 rfl (lv_at hl 1 rfl) ?_
      refine lv_bipush (v := 40) hx hb dX8_putOne_37 (by decide) ?_
      obtain ⟨q39, e39, h⟩ := g_b h
      refine callVvs (cc := cX8_putOne) (w1 := zzM ad cy (us iM [(73, q39.1)]) (us aM [(72, q39.2)])) (As := [.int ((40 : Int32))]) (rest := []) ⟨hx, hb, hml, hown, hts⟩ (c_M_put l dC dI cy ad H.size ((40 : Int32)) iM aM q39 e39) (cwV 1 hts (goodV m_ml_X8_441 m_im_X8_put m_se_X8_put m_in_X8 m_cd_X8_put) rfl rfl rfl (by decide +kernel) ⟨Nat.le_of_ble_eq_true rfl, Nat.le_of_ble_eq_true rfl⟩) hN hK hP hD hS hA rfl 0 rfl rfl rfl hl.1 rfl (Nat.le_of_ble_eq_true rfl) dX8_putOne_39 ⟨Nat.zero_le _, Nat.zero_le _⟩ (fun H locs hP hD hS => ?_)
      refine lv_aload_n hx hb dX8_putOne_42 rfl (lv_at hl 1 rfl) ?_
      refine lv_iconst (v := 1) hx hb dX8_putOne_43 (by decide) ?_
      refine lv_bipush (v := 41) hx hb dX8_putOne_44 (by decide) ?_
      refine lv_iconst (v := 0) hx hb dX8_putOne_46 (by decide) ?_
      obtain ⟨q47, e47, h⟩ := g_b h
      refine callVvs (cc := cX8_putOne) (w1 := zzM ad cy (us iM [(73, q39.1), (77, q47.1)]) (us aM [(72, q39.2), (74, q47.2.1), (75, q47.2.2.1), (76, q47.2.2.2)])) (As := [.int ((1 : Int32)), .int ((41 : Int32)), .int ((0 : Int32))]) (rest := []) ⟨hx, hb, hml, hown, hts⟩ (c_M_later l dC dI cy ad H.size ((1 : Int32)) ((41 : Int32)) ((0 : Int32)) ((us iM [(73, q39.1)])) ((us aM [(72, q39.2)])) q47 e47) (cwV 3 hts (goodV m_ml_X8_443 m_im_X8_later m_se_X8_later m_in_X8 m_cd_X8_later) rfl rfl rfl (by decide +kernel) ⟨Nat.le_of_ble_eq_true rfl, Nat.le_of_ble_eq_true rfl⟩) hN hK hP hD hS hA rfl 0 rfl rfl rfl hl.1 rfl (Nat.le_of_ble_eq_true rfl) dX8_putOne_47 ⟨Nat.zero_le _, Nat.zero_le _⟩ (fun H locs hP hD hS => ?_)
      exact B50 v1 v3 s0 q39.1 q47.1 q39.2 q47.2.1 q47.2.2.1 q47.2.2.2 H locs ls h hP hD hS (lv_sub hl [1, 2, 4, 0] rfl)
  intro H locs hP hD hS
  unfold f_M_putOne at h
  refine lv_aload_n hx hb dX8_putOne_0 rfl (lv_at hl 0 rfl) ?_
  refine va_get (D := (dC, dI)) (ci := 8) (v := .ref (ad 3)) (C := RX8) (T := TX8) (N := 78) hx hb hts ki8 hown hK hP 0 rfl rfl 8 (by decide) kf17 (fun _ h9 => h9) rfl dX8_putOne_1 ?_
  refine lv_iload_n hx hb dX8_putOne_4 rfl (lv_at hl 1 rfl) ?_
  obtain ⟨g_60, h⟩ := g_n h
  refine va_iald (f := (aM 8)) hx hb hK hP 3 0 rfl rfl g_60 dX8_putOne_5 ?_
  refine lv_istore_n (lv' := [(3, .int (((aM 8) a1.toNatClampNeg))), (0, .ref (ad 0)), (1, .int a1), (2, .int a2)]) hx hb dX8_putOne_6 rfl hl (by decide) rfl (fun ls hl => ?_)
  refine lv_iload_n hx hb dX8_putOne_7 rfl (lv_at hl 0 rfl) ?_
  refine lv_bipush (v := 7) hx hb dX8_putOne_8 (by decide) ?_
  refine lv_icmp_ne (tgt := 17) hx hb dX8_putOne_10 (by decide) (fun cz => ?_) (fun cz => ?_)
  · have h := g_f h cz
    refine lv_iload_n hx hb dX8_putOne_17 rfl (lv_at hl 0 rfl) ?_
    refine lv_bipush (v := 6) hx hb dX8_putOne_18 (by decide) ?_
    refine lv_icmp_ne (tgt := 27) hx hb dX8_putOne_20 (by decide) (fun cz => ?_) (fun cz => ?_)
    · have h := g_f h cz
      refine lv_iconst (v := 3) hx hb dX8_putOne_27 (by decide) ?_
      exact B28 a1 a2 (((aM 8) a1.toNatClampNeg)) ((3 : Int32)) H locs ls h hP hD hS (lv_sub hl [1, 2, 3, 0] rfl)
    · have h := g_t h cz
      refine lv_iconst (v := 2) hx hb dX8_putOne_23 (by decide) ?_
      refine lv_goto (tgt := 28) hx hb dX8_putOne_24 (by decide) ?_
      exact B28 a1 a2 (((aM 8) a1.toNatClampNeg)) ((2 : Int32)) H locs ls h hP hD hS (lv_sub hl [1, 2, 3, 0] rfl)
  · have h := g_t h cz
    refine lv_iconst (v := 1) hx hb dX8_putOne_13 (by decide) ?_
    refine lv_goto (tgt := 28) hx hb dX8_putOne_14 (by decide) ?_
    exact B28 a1 a2 (((aM 8) a1.toNatClampNeg)) ((1 : Int32)) H locs ls h hP hD hS (lv_sub hl [1, 2, 3, 0] rfl)
