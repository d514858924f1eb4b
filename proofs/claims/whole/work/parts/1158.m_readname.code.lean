def f_M_readName_128 (N : Nat) (iM4 : Int32) (iM5 : Int32) (iM43 : Int32) (iM44 : Int32) (iM45 : Int32) (iM46 : Int32) (iM47 : Int32) (aM0 : Nat → Int32) (aM9 : Nat → Int32) (aM11 : Nat → Int32) (aM12 : Nat → Int32) (aM23 : Nat → Int32) (aM24 : Nat → Int32) (aM26 : Nat → Int32) (aM27 : Nat → Int32) (aM32 : Nat → Int32) (aM33 : Nat → Int32) (aM34 : Nat → Int32) (aM35 : Nat → Int32) (v1 : Int32) (v2 : Int32) (x_iM43 : Int32) (x_aM9 : Nat → Int32) (x_aM23 : Nat → Int32) (x_aM24 : Nat → Int32) : Nat → Int32 → (Nat → Int32) → Option (Int32 × Int32 × Int32 × Int32 × (Nat → Int32) × (Nat → Int32) × (Nat → Int32) × (Nat → Int32) × (Nat → Int32) × (Nat → Int32) × (Nat → Int32) × (Nat → Int32))
  | 0, _, _ => none
  | n + 1, v3, x_aM11 => if iM45 ≤ v3 then (if v1 < 0 ∨ 400 ≤ v1.toNatClampNeg then none else (if 0 ≤ (x_aM11 v1.toNatClampNeg) then (some (x_iM43, iM45, iM46, iM47, x_aM9, x_aM11, x_aM23, x_aM24, aM32, aM33, aM34, aM35)) else ((f_M_newAtom v1 ((-1 : Int32)) v2 ((-1 : Int32)) ((0 : Int32)) iM45 iM46 iM47 x_aM11 aM12 aM32 aM33 aM34 aM35).bind fun q177 => (some (x_iM43, q177.1, q177.2.1, q177.2.2.1, x_aM9, q177.2.2.2.1, x_aM23, x_aM24, q177.2.2.2.2.1, q177.2.2.2.2.2.1, q177.2.2.2.2.2.2.1, q177.2.2.2.2.2.2.2))))) else (if ((9 : Int32) + v3) < 0 ∨ 18 ≤ (((9 : Int32) + v3)).toNatClampNeg then none else (if (aM33 (((9 : Int32) + v3)).toNatClampNeg) = v2 then (if v1 < 0 ∨ 400 ≤ v1.toNatClampNeg then none else (f_M_readName_128 N iM4 iM5 iM43 iM44 iM45 iM46 iM47 aM0 aM9 aM11 aM12 aM23 aM24 aM26 aM27 aM32 aM33 aM34 aM35 v1 v2 x_iM43 x_aM9 x_aM23 x_aM24 n ((v3 + (1 : Int32))) ((upd x_aM11 v1.toNatClampNeg v3)))) else (f_M_readName_128 N iM4 iM5 iM43 iM44 iM45 iM46 iM47 aM0 aM9 aM11 aM12 aM23 aM24 aM26 aM27 aM32 aM33 aM34 aM35 v1 v2 x_iM43 x_aM9 x_aM23 x_aM24 n ((v3 + (1 : Int32))) x_aM11)))
def f_M_readName_119 (N : Nat) (iM4 : Int32) (iM5 : Int32) (iM43 : Int32) (iM44 : Int32) (iM45 : Int32) (iM46 : Int32) (iM47 : Int32) (aM0 : Nat → Int32) (aM9 : Nat → Int32) (aM11 : Nat → Int32) (aM12 : Nat → Int32) (aM23 : Nat → Int32) (aM24 : Nat → Int32) (aM26 : Nat → Int32) (aM27 : Nat → Int32) (aM32 : Nat → Int32) (aM33 : Nat → Int32) (aM34 : Nat → Int32) (aM35 : Nat → Int32) (v1 : Int32) (v2 : Int32) (x_iM43 : Int32) (x_aM23 : Nat → Int32) (x_aM24 : Nat → Int32) : Option (Int32 × Int32 × Int32 × Int32 × (Nat → Int32) × (Nat → Int32) × (Nat → Int32) × (Nat → Int32) × (Nat → Int32) × (Nat → Int32) × (Nat → Int32) × (Nat → Int32)) := if v1 < 0 ∨ 400 ≤ v1.toNatClampNeg then none else (f_M_readName_128 N iM4 iM5 iM43 iM44 iM45 iM46 iM47 aM0 aM9 aM11 aM12 aM23 aM24 aM26 aM27 aM32 aM33 aM34 aM35 v1 v2 x_iM43 ((upd aM9 v1.toNatClampNeg v2)) x_aM23 x_aM24 N ((0 : Int32)) aM11)
def f_M_readName_59 (N : Nat) (iM4 : Int32) (iM5 : Int32) (iM43 : Int32) (iM44 : Int32) (iM45 : Int32) (iM46 : Int32) (iM47 : Int32) (aM0 : Nat → Int32) (aM9 : Nat → Int32) (aM11 : Nat → Int32) (aM12 : Nat → Int32) (aM23 : Nat → Int32) (aM24 : Nat → Int32) (aM26 : Nat → Int32) (aM27 : Nat → Int32) (aM32 : Nat → Int32) (aM33 : Nat → Int32) (aM34 : Nat → Int32) (aM35 : Nat → Int32) (v1 : Int32) (v2 : Int32) : Nat → Int32 → (Nat → Int32) → Option (Int32 × Int32 × Int32 × Int32 × (Nat → Int32) × (Nat → Int32) × (Nat → Int32) × (Nat → Int32) × (Nat → Int32) × (Nat → Int32) × (Nat → Int32) × (Nat → Int32))
  | 0, _, _ => none
  | n + 1, v3, x_aM23 => if iM5 ≤ v3 then (if ((5 : Int32) + v2) < 0 ∨ 10 ≤ (((5 : Int32) + v2)).toNatClampNeg then none else (f_M_readName_119 N iM4 iM5 iM43 iM44 iM45 iM46 iM47 aM0 aM9 aM11 aM12 aM23 aM24 aM26 aM27 aM32 aM33 aM34 aM35 v1 v2 ((iM43 + (1 : Int32))) x_aM23 ((upd aM24 (((5 : Int32) + v2)).toNatClampNeg iM5)))) else (if (iM4 + v3) < 0 ∨ 2000 ≤ ((iM4 + v3)).toNatClampNeg then none else (if (((8 : Int32) * ((5 : Int32) + v2)) + v3) < 0 ∨ 80 ≤ ((((8 : Int32) * ((5 : Int32) + v2)) + v3)).toNatClampNeg then none else (f_M_readName_59 N iM4 iM5 iM43 iM44 iM45 iM46 iM47 aM0 aM9 aM11 aM12 aM23 aM24 aM26 aM27 aM32 aM33 aM34 aM35 v1 v2 n ((v3 + (1 : Int32))) ((upd x_aM23 ((((8 : Int32) * ((5 : Int32) + v2)) + v3)).toNatClampNeg (vp_nar .byte ((aM0 ((iM4 + v3)).toNatClampNeg))))))))
def f_M_readName_48 (N : Nat) (iM4 : Int32) (iM5 : Int32) (iM43 : Int32) (iM44 : Int32) (iM45 : Int32) (iM46 : Int32) (iM47 : Int32) (aM0 : Nat → Int32) (aM9 : Nat → Int32) (aM11 : Nat → Int32) (aM12 : Nat → Int32) (aM23 : Nat → Int32) (aM24 : Nat → Int32) (aM26 : Nat → Int32) (aM27 : Nat → Int32) (aM32 : Nat → Int32) (aM33 : Nat → Int32) (aM34 : Nat → Int32) (aM35 : Nat → Int32) (v1 : Int32) (v2 : Int32) : Option (Int32 × Int32 × Int32 × Int32 × (Nat → Int32) × (Nat → Int32) × (Nat → Int32) × (Nat → Int32) × (Nat → Int32) × (Nat → Int32) × (Nat → Int32) × (Nat → Int32)) := if 0 ≤ v2 then (f_M_readName_119 N iM4 iM5 iM43 iM44 iM45 iM46 iM47 aM0 aM9 aM11 aM12 aM23 aM24 aM26 aM27 aM32 aM33 aM34 aM35 v1 v2 iM43 aM23 aM24) else (f_M_readName_59 N iM4 iM5 iM43 iM44 iM45 iM46 iM47 aM0 aM9 aM11 aM12 aM23 aM24 aM26 aM27 aM32 aM33 aM34 aM35 v1 iM43 N ((0 : Int32)) aM23)
def f_M_readName_26 (N : Nat) (iM4 : Int32) (iM5 : Int32) (iM43 : Int32) (iM44 : Int32) (iM45 : Int32) (iM46 : Int32) (iM47 : Int32) (aM0 : Nat → Int32) (aM9 : Nat → Int32) (aM11 : Nat → Int32) (aM12 : Nat → Int32) (aM23 : Nat → Int32) (aM24 : Nat → Int32) (aM26 : Nat → Int32) (aM27 : Nat → Int32) (aM32 : Nat → Int32) (aM33 : Nat → Int32) (aM34 : Nat → Int32) (aM35 : Nat → Int32) (v1 : Int32) (v2 : Int32) : Option (Int32 × Int32 × Int32 × Int32 × (Nat → Int32) × (Nat → Int32) × (Nat → Int32) × (Nat → Int32) × (Nat → Int32) × (Nat → Int32) × (Nat → Int32) × (Nat → Int32)) := if 0 ≤ v2 then (f_M_readName_48 N iM4 iM5 iM43 iM44 iM45 iM46 iM47 aM0 aM9 aM11 aM12 aM23 aM24 aM26 aM27 aM32 aM33 aM34 aM35 v1 v2) else (if iM43 = (5 : Int32) then ((f_M_wrong ((3 : Int32)) iM4 iM46 iM47).bind fun q44 => (some (iM43, iM45, q44.1, q44.2, aM9, aM11, aM23, aM24, aM32, aM33, aM34, aM35))) else (f_M_readName_48 N iM4 iM5 iM43 iM44 iM45 iM46 iM47 aM0 aM9 aM11 aM12 aM23 aM24 aM26 aM27 aM32 aM33 aM34 aM35 v1 v2))
def f_M_readName (N : Nat) (a1 : Int32) (iM4 : Int32) (iM5 : Int32) (iM43 : Int32) (iM44 : Int32) (iM45 : Int32) (iM46 : Int32) (iM47 : Int32) (aM0 : Nat → Int32) (aM9 : Nat → Int32) (aM11 : Nat → Int32) (aM12 : Nat → Int32) (aM23 : Nat → Int32) (aM24 : Nat → Int32) (aM26 : Nat → Int32) (aM27 : Nat → Int32) (aM32 : Nat → Int32) (aM33 : Nat → Int32) (aM34 : Nat → Int32) (aM35 : Nat → Int32) : Option (Int32 × Int32 × Int32 × Int32 × (Nat → Int32) × (Nat → Int32) × (Nat → Int32) × (Nat → Int32) × (Nat → Int32) × (Nat → Int32) × (Nat → Int32) × (Nat → Int32)) := (f_M_nameHere N iM4 iM5 iM43 aM0 aM23 aM24).bind fun q1 => (if 0 ≤ q1 then (f_M_readName_26 N iM4 iM5 iM43 iM44 iM45 iM46 iM47 aM0 aM9 aM11 aM12 aM23 aM24 aM26 aM27 aM32 aM33 aM34 aM35 a1 q1) else ((f_M_roleHere N iM4 iM5 iM44 aM0 aM26 aM27).bind fun q10 => (if q10 < 0 then (f_M_readName_26 N iM4 iM5 iM43 iM44 iM45 iM46 iM47 aM0 aM9 aM11 aM12 aM23 aM24 aM26 aM27 aM32 aM33 aM34 aM35 a1 q1) else ((f_M_wrong ((4 : Int32)) iM4 iM46 iM47).bind fun q22 => (some (iM43, iM45, q22.1, q22.2, aM9, aM11, aM23, aM24, aM32, aM33, aM34, aM35))))))
set_option maxHeartbeats 8000000 in
set_option maxRecDepth 100000 in
theorem c_M_readName (l : Launch) (dC : Nat → ClassId) (dI : Nat → Nat → Nat) (cy : Nat → ClassId) (ad : Nat → Nat) (sz : Nat) (N : Nat) (a1 : Int32) (iM : Nat → Int32) (aM : Nat → Nat → Int32) (q : Int32 × Int32 × Int32 × Int32 × (Nat → Int32) × (Nat → Int32) × (Nat → Int32) × (Nat → Int32) × (Nat → Int32) × (Nat → Int32) × (Nat → Int32) × (Nat → Int32)) (h : f_M_readName N a1 (iM 4) (iM 5) (iM 43) (iM 44) (iM 45) (iM 46) (iM 47) (aM 0) (aM 9) (aM 11) (aM 12) (aM 23) (aM 24) (aM 26) (aM 27) (aM 32) (aM 33) (aM 34) (aM 35) = some q) : Met l yX8_readName wsX8_readName ({ frames := 2, cells := 0, slots := 0, locals := 47 } : Room) (cP (dC, dI) cy [.ref (ad 0), .int a1] (zzM ad cy iM aM) sz) (cQv (dC, dI) cy (zzM ad cy (us iM [(43, q.1), (45, q.2.1), (46, q.2.2.1), (47, q.2.2.2.1)]) (us aM [(9, q.2.2.2.2.1), (11, q.2.2.2.2.2.1), (23, q.2.2.2.2.2.2.1), (24, q.2.2.2.2.2.2.2.1), (32, q.2.2.2.2.2.2.2.2.1), (33, q.2.2.2.2.2.2.2.2.2.1), (34, q.2.2.2.2.2.2.2.2.2.2.1), (35, q.2.2.2.2.2.2.2.2.2.2.2)])) (va_A (zzM ad cy iM aM) sz)) 0 0 (va_A (zzM ad cy iM aM) sz) := by
  refine Met.ofW (cc := cX8_readName) (maxL := 4) (ret := none) (by decide) rfl ?_
  intro p e s m args below meth c s₁ B hml hv
  obtain ⟨hav, hsz, hP, hK, hD0, hN⟩ := hv
  have hx := B.exec
  have hb := B.bytes
  have hr := B.returns
  have hts := atoms_spec (ws := wsX8_readName) B.pre
  have hown : s.vm.findClass RX8 = some m.cls := findClass_of_methodNamed B.named
  have hlocks := B.notSynchronized
  subst hsz
  have hD := hD0.self (sz := s.heap.size)
  generalize hAe : va_A (zzM ad cy iM aM) s.heap.size = A at hD ⊢
  have hA : ∀ q : Nat, s.heap.size ≤ q → A q := fun q h => by rw [← hAe]; exact Or.inr h
  have hS : va_S A s.heap s.heap [] := va_S.rf
  generalize hWQ : (zzM ad cy (us iM [(43, q.1), (45, q.2.1), (46, q.2.2.1), (47, q.2.2.2.1)]) (us aM [(9, q.2.2.2.2.1), (11, q.2.2.2.2.2.1), (23, q.2.2.2.2.2.2.1), (24, q.2.2.2.2.2.2.2.1), (32, q.2.2.2.2.2.2.2.2.1), (33, q.2.2.2.2.2.2.2.2.2.1), (34, q.2.2.2.2.2.2.2.2.2.2.1), (35, q.2.2.2.2.2.2.2.2.2.2.2)])) = WQ
  generalize hQQ : MQ below (cQv (dC, dI) cy WQ A) args s 0 0 A = QQ
  have hl := lv_entry ([.ref (ad 0), .int a1] : List Value) (n := 4) (Nat.le_of_ble_eq_true rfl)
  have hfr := lg_entry_eq m ([.ref (ad 0), .int a1] : List Value) 4
  rw [← hav] at hfr
  rw [hfr]
  clear hfr hav
  generalize (lg_sl ([.ref (ad 0), .int a1] : List Value) ++ List.replicate (4 - (lg_sl ([.ref (ad 0), .int a1] : List Value)).length) Slot.unset).toArray = ls at hl ⊢
  have hl : lv_has ls 4 [(0, .ref (ad 0)), (1, .int a1)] := hl
  have kf234 := hts _ (List.mem_cons_of_mem _ m_fl_X8_234)
  have ki8 := (fun w h => List.mem_cons_of_mem _ (i_X8 w h) : ∀ w ∈ u_ws RX8 TX8 78, w ∈ wsX8_readName)
  have kf27 := hts _ (List.mem_cons_of_mem _ m_fl_X8_27)
  have kf76 := hts _ (List.mem_cons_of_mem _ m_fl_X8_76)
  have kf21 := hts _ (List.mem_cons_of_mem _ m_fl_X8_21)
  have kf172 := hts _ (List.mem_cons_of_mem _ m_fl_X8_172)
  have kf54 := hts _ (List.mem_cons_of_mem _ m_fl_X8_54)
  have kf214 := hts _ (List.mem_cons_of_mem _ m_fl_X8_214)
  have kf51 := hts _ (List.mem_cons_of_mem _ m_fl_X8_51)
  have kf7 := hts _ (List.mem_cons_of_mem _ m_fl_X8_7)
  have kf169 := hts _ (List.mem_cons_of_mem _ m_fl_X8_169)
  refine (?_ : ∀ (H : Heap) (locs : List Loc), va_P (dC, dI) vwCl (zzM ad cy iM aM) H → va_D A (zzM ad cy iM aM) → va_S A s.heap H locs → W p l e ({ frames := 2, cells := 0, slots := 0, locals := 47 } : Room) s m args below meth c H locs 0 0 QQ (F0 m 0 ls [])) s.heap [] hP hD hS
  clear hP hD hS
  have B128 : ∀ (n : Nat) (v1 : Int32) (v2 : Int32) (x_iM43 : Int32) (x_aM9 : Nat → Int32) (x_aM23 : Nat → Int32) (x_aM24 : Nat → Int32) (v3 : Int32) (x_aM11 : Nat → Int32) (H : Heap) (locs : List Loc) (ls : Array Slot), f_M_readName_128 N (iM 4) (iM 5) (iM 43) (iM 44) (iM 45) (iM 46) (iM 47) (aM 0) (aM 9) (aM 11) (aM 12) (aM 23) (aM 24) (aM 26) (aM 27) (aM 32) (aM 33) (aM 34) (aM 35) v1 v2 x_iM43 x_aM9 x_aM23 x_aM24 n v3 x_aM11 = some q → va_P (dC, dI) vwCl (zzM ad cy (us iM [(43, x_iM43)]) (us aM [(9, x_aM9), (11, x_aM11), (23, x_aM23), (24, x_aM24)])) H → va_D A (zzM ad cy (us iM [(43, x_iM43)]) (us aM [(9, x_aM9), (11, x_aM11), (23, x_aM23), (24, x_aM24)])) → va_S A s.heap H locs → lv_has ls 4 [(0, .ref (ad 0)), (1, .int v1), (2, .int v2), (3, .int v3)] → W p l e ({ frames := 2, cells := 0, slots := 0, locals := 47 } : Room) s m args below meth c H locs 0 0 QQ (F0 m 128 ls []) := by
    intro n
    induction n with
    | zero =>
      intro v1 v2 x_iM43 x_aM9 x_aM23 x_aM24 v3 x_aM11 H locs ls h hP hD hS hl
      rw [f_M_readName_128] at h
      cases h
    | succ n ih =>
      intro v1 v2 x_iM43 x_aM9 x_aM23 x_aM24 v3 x_aM11 H locs ls h hP hD hS hl
      rw [f_M_readName_128] at h
      refine lv_iload_n hx hb dX8_readName_128 rfl (lv_at hl 3 rfl) ?_
      refine lv_aload_n hx hb dX8_readName_129 rfl (lv_at hl 0 rfl) ?_
      refine va_get (D := (dC, dI)) (ci := 8) (v := .int (iM 45)) (C := RX8) (T := TX8) (N := 78) hx hb hts ki8 hown hK hP 0 rfl rfl 45 (by decide) kf234 (fun _ h9 => h9) rfl dX8_readName_130 ?_
      refine lv_icmp_ge (tgt := 162) hx hb dX8_readName_133 (by decide) (fun cz => ?_) (fun cz => ?_)
      · have h := g_t h cz
        refine lv_aload_n hx hb dX8_readName_162 rfl (lv_at hl 0 rfl) ?_
        refine va_get (D := (dC, dI)) (ci := 8) (v := .ref (ad 6)) (C := RX8) (T := TX8) (N := 78) hx hb hts ki8 hown hK hP 0 rfl rfl 11 (by decide) kf27 (fun _ h9 => h9) rfl dX8_readName_163 ?_
        refine lv_iload_n hx hb dX8_readName_166 rfl (lv_at hl 1 rfl) ?_
        obtain ⟨g_62, h⟩ := g_n h
        refine va_iald (f := x_aM11) hx hb hK hP 6 0 rfl rfl g_62 dX8_readName_167 ?_
        refine lv_if_ge (tgt := 180) hx hb dX8_readName_168 (by decide) (fun cz => ?_) (fun cz => ?_)
        · have h := g_t h cz
          have h' := Option.some.inj h
          rw [← hQQ]
          exact W.vret hx hb hr (fun t ht hW => ⟨⟨(), rfl, trivial, by rw [← hWQ, ← h', ht]; exact hP, va_K.moved hW.alike hK⟩, hS.F ht⟩) hS.2.2 dX8_readName_180
        · have h := g_f h cz
          refine lv_aload_n hx hb dX8_readName_171 rfl (lv_at hl 0 rfl) ?_
          refine lv_iload_n hx hb dX8_readName_172 rfl (lv_at hl 1 rfl) ?_
          refine lv_iconst (v := (-1)) hx hb dX8_readName_173 (by decide) ?_
          refine lv_iload_n hx hb dX8_readName_174 rfl (lv_at hl 2 rfl) ?_
          refine lv_iconst (v := (-1)) hx hb dX8_readName_175 (by decide) ?_
          refine lv_iconst (v := 0) hx hb dX8_readName_176 (by decide) ?_
          obtain ⟨q177, e177, h⟩ := g_b h
          refine callVvs (cc := cX8_readName) (w1 := zzM ad cy (us iM [(43, x_iM43), (45, q177.1), (46, q177.2.1), (47, q177.2.2.1)]) (us aM [(9, x_aM9), (11, q177.2.2.2.1), (23, x_aM23), (24, x_aM24), (32, q177.2.2.2.2.1), (33, q177.2.2.2.2.2.1), (34, q177.2.2.2.2.2.2.1), (35, q177.2.2.2.2.2.2.2)])) (As := [.int v1, .int ((-1 : Int32)), .int v2, .int ((-1 : Int32)), .int ((0 : Int32))]) (rest := []) ⟨hx, hb, hml, hown, hts⟩ (c_M_newAtom l dC dI cy ad H.size v1 ((-1 : Int32)) v2 ((-1 : Int32)) ((0 : Int32)) ((us iM [(43, x_iM43)])) ((us aM [(9, x_aM9), (11, x_aM11), (23, x_aM23), (24, x_aM24)])) q177 e177) (cwV 5 hts (goodV m_ml_X8_237 m_im_X8_newAtom m_se_X8_newAtom m_in_X8 m_cd_X8_newAtom) rfl rfl rfl (by decide +kernel) ⟨Nat.le_of_ble_eq_true rfl, Nat.le_of_ble_eq_true rfl⟩) hN hK hP hD hS hA rfl 0 rfl rfl rfl hl.1 rfl (Nat.le_of_ble_eq_true rfl) dX8_readName_177 ⟨Nat.zero_le _, Nat.zero_le _⟩ (fun H locs hP hD hS => ?_)
          have h' := Option.some.inj h
          rw [← hQQ]
          exact W.vret hx hb hr (fun t ht hW => ⟨⟨(), rfl, trivial, by rw [← hWQ, ← h', ht]; exact hP, va_K.moved hW.alike hK⟩, hS.F ht⟩) hS.2.2 dX8_readName_180
      · have h := g_f h cz
        refine lv_aload_n hx hb dX8_readName_136 rfl (lv_at hl 0 rfl) ?_
        refine va_get (D := (dC, dI)) (ci := 8) (v := .ref (ad 22)) (C := RX8) (T := TX8) (N := 78) hx hb hts ki8 hown hK hP 0 rfl rfl 33 (by decide) kf76 (fun _ h9 => h9) rfl dX8_readName_137 ?_
        refine lv_bipush (v := 9) hx hb dX8_readName_140 (by decide) ?_
        refine lv_iload_n hx hb dX8_readName_142 rfl (lv_at hl 3 rfl) ?_
        refine lv_iadd hx hb dX8_readName_143 ?_
        obtain ⟨g_63, h⟩ := g_n h
        refine va_iald (f := (aM 33)) hx hb hK hP 22 0 rfl rfl g_63 dX8_readName_144 ?_
        refine lv_iload_n hx hb dX8_readName_145 rfl (lv_at hl 2 rfl) ?_
        refine lv_icmp_ne (tgt := 156) hx hb dX8_readName_146 (by decide) (fun cz => ?_) (fun cz => ?_)
        · have h := g_f h cz
          refine lv_iinc (v := (v3 + (1 : Int32))) (lv' := [(3, .int ((v3 + (1 : Int32)))), (0, .ref (ad 0)), (1, .int v1), (2, .int v2)]) hx hb dX8_readName_156 hl (k := 3) rfl rfl (by decide) rfl (fun ls hl => ?_)
          refine lv_goto (tgt := 128) hx hb dX8_readName_159 (by decide) ?_
          exact ih v1 v2 x_iM43 x_aM9 x_aM23 x_aM24 ((v3 + (1 : Int32))) x_aM11 H locs ls h hP hD hS (lv_sub hl [1, 2, 3, 0] rfl)
        · have h := g_t h cz
          refine lv_aload_n hx hb dX8_readName_149 rfl (lv_at hl 0 rfl) ?_
          refine va_get (D := (dC, dI)) (ci := 8) (v := .ref (ad 6)) (C := RX8) (T := TX8) (N := 78) hx hb hts ki8 hown hK hP 0 rfl rfl 11 (by decide) kf27 (fun _ h9 => h9) rfl dX8_readName_150 ?_
          refine lv_iload_n hx hb dX8_readName_153 rfl (lv_at hl 1 rfl) ?_
          refine lv_iload_n hx hb dX8_readName_154 rfl (lv_at hl 3 rfl) ?_
          obtain ⟨g_62, h⟩ := g_n h
          refine va_iast (f := x_aM11) hx hb hK hP hD hS 6 0 rfl rfl g_62 dX8_readName_155 (fun H locs hP hD hS => ?_)
          have hP : va_P (dC, dI) vwCl (zzM ad cy (us iM [(43, x_iM43)]) (us aM [(9, x_aM9), (11, (upd x_aM11 v1.toNatClampNeg v3)), (23, x_aM23), (24, x_aM24)])) H := Eq.mp (congrArg (fun w => va_P (dC, dI) vwCl w H) (stM_aM11 ad cy (us iM [(43, x_iM43)]) aM [(9, x_aM9), (11, x_aM11), (23, x_aM23), (24, x_aM24)] ((upd x_aM11 v1.toNatClampNeg v3)))) hP
          have hD : va_D A (zzM ad cy (us iM [(43, x_iM43)]) (us aM [(9, x_aM9), (11, (upd x_aM11 v1.toNatClampNeg v3)), (23, x_aM23), (24, x_aM24)])) := Eq.mp (congrArg (fun w => va_D A w) (stM_aM11 ad cy (us iM [(43, x_iM43)]) aM [(9, x_aM9), (11, x_aM11), (23, x_aM23), (24, x_aM24)] ((upd x_aM11 v1.toNatClampNeg v3)))) hD
          refine lv_iinc (v := (v3 + (1 : Int32))) (lv' := [(3, .int ((v3 + (1 : Int32)))), (0, .ref (ad 0)), (1, .int v1), (2, .int v2)]) hx hb dX8_readName_156 hl (k := 3) rfl rfl (by decide) rfl (fun ls hl => ?_)
          refine lv_goto (tgt := 128) hx hb dX8_readName_159 (by decide) ?_
          exact ih v1 v2 x_iM43 x_aM9 x_aM23 x_aM24 ((v3 + (1 : Int32))) ((upd x_aM11 v1.toNatClampNeg v3)) H locs ls h hP hD hS (lv_sub hl [1, 2, 3, 0] rfl)
  have B119 : ∀ (v1 : Int32) (v2 : Int32) (x_iM43 : Int32) (x_aM23 : Nat → Int32) (x_aM24 : Nat → Int32) (H : Heap) (locs : List Loc) (ls : Array Slot), f_M_readName_119 N (iM 4) (iM 5) (iM 43) (iM 44) (iM 45) (iM 46) (iM 47) (aM 0) (aM 9) (aM 11) (aM 12) (aM 23) (aM 24) (aM 26) (aM 27) (aM 32) (aM 33) (aM 34) (aM 35) v1 v2 x_iM43 x_aM23 x_aM24 = some q → va_P (dC, dI) vwCl (zzM ad cy (us iM [(43, x_iM43)]) (us aM [(23, x_aM23), (24, x_aM24)])) H → va_D A (zzM ad cy (us iM [(43, x_iM43)]) (us aM [(23, x_aM23), (24, x_aM24)])) → va_S A s.heap H locs → lv_has ls 4 [(0, .ref (ad 0)), (1, .int v1), (2, .int v2)] → W p l e ({ frames := 2, cells := 0, slots := 0, locals := 47 } : Room) s m args below meth c H locs 0 0 QQ (F0 m 119 ls []) := by
    intro v1 v2 x_iM43 x_aM23 x_aM24 H locs ls h hP hD hS hl
    unfold f_M_readName_119 at h
    refine lv_aload_n hx hb dX8_readName_119 rfl (lv_at hl 0 rfl) ?_
    refine va_get (D := (dC, dI)) (ci := 8) (v := .ref (ad 4)) (C := RX8) (T := TX8) (N := 78) hx hb hts ki8 hown hK hP 0 rfl rfl 9 (by decide) kf21 (fun _ h9 => h9) rfl dX8_readName_120 ?_
    refine lv_iload_n hx hb dX8_readName_123 rfl (lv_at hl 1 rfl) ?_
    refine lv_iload_n hx hb dX8_readName_124 rfl (lv_at hl 2 rfl) ?_
    obtain ⟨g_62, h⟩ := g_n h
    refine va_iast (f := (aM 9)) hx hb hK hP hD hS 4 0 rfl rfl g_62 dX8_readName_125 (fun H locs hP hD hS => ?_)
    have hP : va_P (dC, dI) vwCl (zzM ad cy (us iM [(43, x_iM43)]) (us aM [(9, (upd (aM 9) v1.toNatClampNeg v2)), (23, x_aM23), (24, x_aM24)])) H := Eq.mp (congrArg (fun w => va_P (dC, dI) vwCl w H) (stM_aM9 ad cy (us iM [(43, x_iM43)]) aM [(23, x_aM23), (24, x_aM24)] ((upd (aM 9) v1.toNatClampNeg v2)))) hP
    have hD : va_D A (zzM ad cy (us iM [(43, x_iM43)]) (us aM [(9, (upd (aM 9) v1.toNatClampNeg v2)), (23, x_aM23), (24, x_aM24)])) := Eq.mp (congrArg (fun w => va_D A w) (stM_aM9 ad cy (us iM [(43, x_iM43)]) aM [(23, x_aM23), (24, x_aM24)] ((upd (aM 9) v1.toNatClampNeg v2)))) hD
    refine lv_iconst (v := 0) hx hb dX8_readName_126 (by decide) ?_
    refine lv_istore_n (lv' := [(3, .int ((0 : Int32))), (0, .ref (ad 0)), (1, .int v1), (2, .int v2)]) hx hb dX8_readName_127 rfl hl (by decide) rfl (fun ls hl => ?_)
    exact B128 N v1 v2 x_iM43 ((upd (aM 9) v1.toNatClampNeg v2)) x_aM23 x_aM24 ((0 : Int32)) (aM 11) H locs ls h hP hD hS (lv_sub hl [1, 2, 3, 0] rfl)
  have B59 : ∀ (n : Nat) (v1 : Int32) (v2 : Int32) (v3 : Int32) (x_aM23 : Nat → Int32) (H : Heap) (locs : List Loc) (ls : Array Slot), f_M_readName_59 N (iM 4) (iM 5) (iM 43) (iM 44) (iM 45) (iM 46) (iM 47) (aM 0) (aM 9) (aM 11) (aM 12) (aM 23) (aM 24) (aM 26) (aM 27) (aM 32) (aM 33) (aM 34) (aM 35) v1 v2 n v3 x_aM23 = some q → va_P (dC, dI) vwCl (zzM ad cy iM (us aM [(23, x_aM23)])) H → va_D A (zzM ad cy iM (us aM [(23, x_aM23)])) → va_S A s.heap H locs → lv_has ls 4 [(0, .ref (ad 0)), (1, .int v1), (2, .int v2), (3, .int v3)] → W p l e ({ frames := 2, cells := 0, slots := 0, locals := 47 } : Room) s m args below meth c H locs 0 0 QQ (F0 m 59 ls []) := by
    intro n
    induction n with
    | zero =>
      intro v1 v2 v3 x_aM23 H locs ls h hP hD hS hl
      rw [f_M_readName_59] at h
      cases h
    | succ n ih =>
      intro v1 v2 v3 x_aM23 H locs ls h hP hD hS hl
      rw [f_M_readName_59] at h
      refine lv_iload_n hx hb dX8_readName_59 rfl (lv_at hl 3 rfl) ?_
      refine lv_aload_n hx hb dX8_readName_60 rfl (lv_at hl 0 rfl) ?_
      refine va_get (D := (dC, dI)) (ci := 8) (v := .int (iM 5)) (C := RX8) (T := TX8) (N := 78) hx hb hts ki8 hown hK hP 0 rfl rfl 5 (by decide) kf172 (fun _ h9 => h9) rfl dX8_readName_61 ?_
      refine lv_icmp_ge (tgt := 97) hx hb dX8_readName_64 (by decide) (fun cz => ?_) (fun cz => ?_)
      · have h := g_t h cz
        refine lv_aload_n hx hb dX8_readName_97 rfl (lv_at hl 0 rfl) ?_
        refine va_get (D := (dC, dI)) (ci := 8) (v := .ref (ad 15)) (C := RX8) (T := TX8) (N := 78) hx hb hts ki8 hown hK hP 0 rfl rfl 24 (by decide) kf54 (fun _ h9 => h9) rfl dX8_readName_98 ?_
        refine lv_iconst (v := 5) hx hb dX8_readName_101 (by decide) ?_
        refine lv_iload_n hx hb dX8_readName_102 rfl (lv_at hl 2 rfl) ?_
        refine lv_iadd hx hb dX8_readName_103 ?_
        refine lv_aload_n hx hb dX8_readName_104 rfl (lv_at hl 0 rfl) ?_
        refine va_get (D := (dC, dI)) (ci := 8) (v := .int (iM 5)) (C := RX8) (T := TX8) (N := 78) hx hb hts ki8 hown hK hP 0 rfl rfl 5 (by decide) kf172 (fun _ h9 => h9) rfl dX8_readName_105 ?_
        obtain ⟨g_64, h⟩ := g_n h
        refine va_iast (f := (aM 24)) hx hb hK hP hD hS 15 0 rfl rfl g_64 dX8_readName_108 (fun H locs hP hD hS => ?_)
        have hP : va_P (dC, dI) vwCl (zzM ad cy iM (us aM [(23, x_aM23), (24, (upd (aM 24) (((5 : Int32) + v2)).toNatClampNeg (iM 5)))])) H := Eq.mp (congrArg (fun w => va_P (dC, dI) vwCl w H) (stM_aM24 ad cy iM aM [(23, x_aM23)] ((upd (aM 24) (((5 : Int32) + v2)).toNatClampNeg (iM 5))))) hP
        have hD : va_D A (zzM ad cy iM (us aM [(23, x_aM23), (24, (upd (aM 24) (((5 : Int32) + v2)).toNatClampNeg (iM 5)))])) := Eq.mp (congrArg (fun w => va_D A w) (stM_aM24 ad cy iM aM [(23, x_aM23)] ((upd (aM 24) (((5 : Int32) + v2)).toNatClampNeg (iM 5))))) hD
        refine lv_aload_n hx hb dX8_readName_109 rfl (lv_at hl 0 rfl) ?_
        refine lv_dup hx hb dX8_readName_110 rfl ?_
        refine va_get (D := (dC, dI)) (ci := 8) (v := .int (iM 43)) (C := RX8) (T := TX8) (N := 78) hx hb hts ki8 hown hK hP 0 rfl rfl 43 (by decide) kf214 (fun _ h9 => h9) rfl dX8_readName_111 ?_
        refine lv_iconst (v := 1) hx hb dX8_readName_114 (by decide) ?_
        refine lv_iadd hx hb dX8_readName_115 ?_
        refine va_put (D := (dC, dI)) (ci := 8) (v := .int (((iM 43) + (1 : Int32)))) (ty := .int) (C := RX8) (T := TX8) (N := 78) hx hb hts ki8 tyX8 tyX8_ok nmX8 hown hK hP hD hS 0 rfl rfl 43 (by decide) kf214 (fun _ h9 => h9) rfl (by decide +kernel) rfl rfl (Nat.le_of_ble_eq_true rfl) dX8_readName_116 (fun H locs hP hD hS => ?_)
        have hP : va_P (dC, dI) vwCl (zzM ad cy (us iM [(43, ((iM 43) + (1 : Int32)))]) (us aM [(23, x_aM23), (24, (upd (aM 24) (((5 : Int32) + v2)).toNatClampNeg (iM 5)))])) H := Eq.mp (congrArg (fun w => va_P (dC, dI) vwCl w H) (sfM_iM43 ad cy iM (us aM [(23, x_aM23), (24, (upd (aM 24) (((5 : Int32) + v2)).toNatClampNeg (iM 5)))]) (((iM 43) + (1 : Int32))))) hP
        have hD : va_D A (zzM ad cy (us iM [(43, ((iM 43) + (1 : Int32)))]) (us aM [(23, x_aM23), (24, (upd (aM 24) (((5 : Int32) + v2)).toNatClampNeg (iM 5)))])) := Eq.mp (congrArg (fun w => va_D A w) (sfM_iM43 ad cy iM (us aM [(23, x_aM23), (24, (upd (aM 24) (((5 : Int32) + v2)).toNatClampNeg (iM 5)))]) (((iM 43) + (1 : Int32))))) hD
        exact B119 v1 v2 (((iM 43) + (1 : Int32))) x_aM23 ((upd (aM 24) (((5 : Int32) + v2)).toNatClampNeg (iM 5))) H locs ls h hP hD hS (lv_sub hl [0, 1, 2] rfl)
      · have h := g_f h cz
        refine lv_aload_n hx hb dX8_readName_67 rfl (lv_at hl 0 rfl) ?_
        refine va_get (D := (dC, dI)) (ci := 8) (v := .ref (ad 14)) (C := RX8) (T := TX8) (N := 78) hx hb hts ki8 hown hK hP 0 rfl rfl 23 (by decide) kf51 (fun _ h9 => h9) rfl dX8_readName_68 ?_
        refine lv_bipush (v := 8) hx hb dX8_readName_71 (by decide) ?_
        refine lv_iconst (v := 5) hx hb dX8_readName_73 (by decide) ?_
        refine lv_iload_n hx hb dX8_readName_74 rfl (lv_at hl 2 rfl) ?_
        refine lv_iadd hx hb dX8_readName_75 ?_
        refine lv_imul hx hb dX8_readName_76 ?_
        refine lv_iload_n hx hb dX8_readName_77 rfl (lv_at hl 3 rfl) ?_
        refine lv_iadd hx hb dX8_readName_78 ?_
        refine lv_aload_n hx hb dX8_readName_79 rfl (lv_at hl 0 rfl) ?_
        refine va_get (D := (dC, dI)) (ci := 8) (v := .ref (ad 1)) (C := RX8) (T := TX8) (N := 78) hx hb hts ki8 hown hK hP 0 rfl rfl 0 (by decide) kf7 (fun _ h9 => h9) rfl dX8_readName_80 ?_
        refine lv_aload_n hx hb dX8_readName_83 rfl (lv_at hl 0 rfl) ?_
        refine va_get (D := (dC, dI)) (ci := 8) (v := .int (iM 4)) (C := RX8) (T := TX8) (N := 78) hx hb hts ki8 hown hK hP 0 rfl rfl 4 (by decide) kf169 (fun _ h9 => h9) rfl dX8_readName_84 ?_
        refine lv_iload_n hx hb dX8_readName_87 rfl (lv_at hl 3 rfl) ?_
        refine lv_iadd hx hb dX8_readName_88 ?_
        obtain ⟨g_65, h⟩ := g_n h
        refine va_bald (f := (aM 0)) hx hb hK hP 1 1 rfl rfl g_65 dX8_readName_89 ?_
        obtain ⟨g_66, h⟩ := g_n h
        refine va_bast (f := x_aM23) hx hb hK hP hD hS 14 1 rfl rfl g_66 dX8_readName_90 (fun H locs hP hD hS => ?_)
        have hP : va_P (dC, dI) vwCl (zzM ad cy iM (us aM [(23, (upd x_aM23 ((((8 : Int32) * ((5 : Int32) + v2)) + v3)).toNatClampNeg (vp_nar .byte (((aM 0) (((iM 4) + v3)).toNatClampNeg)))))])) H := Eq.mp (congrArg (fun w => va_P (dC, dI) vwCl w H) (stM_aM23 ad cy iM aM [(23, x_aM23)] ((upd x_aM23 ((((8 : Int32) * ((5 : Int32) + v2)) + v3)).toNatClampNeg (vp_nar .byte (((aM 0) (((iM 4) + v3)).toNatClampNeg))))))) hP
        have hD : va_D A (zzM ad cy iM (us aM [(23, (upd x_aM23 ((((8 : Int32) * ((5 : Int32) + v2)) + v3)).toNatClampNeg (vp_nar .byte (((aM 0) (((iM 4) + v3)).toNatClampNeg)))))])) := Eq.mp (congrArg (fun w => va_D A w) (stM_aM23 ad cy iM aM [(23, x_aM23)] ((upd x_aM23 ((((8 : Int32) * ((5 : Int32) + v2)) + v3)).toNatClampNeg (vp_nar .byte (((aM 0) (((iM 4) + v3)).toNatClampNeg))))))) hD
        refine lv_iinc (v := (v3 + (1 : Int32))) (lv' := [(3, .int ((v3 + (1 : Int32)))), (0, .ref (ad 0)), (1, .int v1), (2, .int v2)]) hx hb dX8_readName_91 hl (k := 3) rfl rfl (by decide) rfl (fun ls hl => ?_)
        refine lv_goto (tgt := 59) hx hb dX8_readName_94 (by decide) ?_
        exact ih v1 v2 ((v3 + (1 : Int32))) ((upd x_aM23 ((((8 : Int32) * ((5 : Int32) + v2)) + v3)).toNatClampNeg (vp_nar .byte (((aM 0) (((iM 4) + v3)).toNatClampNeg))))) H locs ls h hP hD hS (lv_sub hl [1, 2, 3, 0] rfl)
  have B48 : ∀ (v1 : Int32) (v2 : Int32) (H : Heap) (locs : List Loc) (ls : Array Slot), f_M_readName_48 N (iM 4) (iM 5) (iM 43) (iM 44) (iM 45) (iM 46) (iM 47) (aM 0) (aM 9) (aM 11) (aM 12) (aM 23) (aM 24) (aM 26) (aM 27) (aM 32) (aM 33) (aM 34) (aM 35) v1 v2 = some q → va_P (dC, dI) vwCl (zzM ad cy iM aM) H → va_D A (zzM ad cy iM aM) → va_S A s.heap H locs → lv_has ls 4 [(0, .ref (ad 0)), (1, .int v1), (2, .int v2)] → W p l e ({ frames := 2, cells := 0, slots := 0, locals := 47 } : Room) s m args below meth c H locs 0 0 QQ (F0 m 48 ls []) := by
    intro v1 v2 H locs ls h hP hD hS hl
    unfold f_M_readName_48 at h
    refine lv_iload_n hx hb dX8_readName_48 rfl (lv_at hl 2 rfl) ?_
    refine lv_if_ge (tgt := 119) hx hb dX8_readName_49 (by decide) (fun cz => ?_) (fun cz => ?_)
    · have h := g_t h cz
      exact B119 v1 v2 (iM 43) (aM 23) (aM 24) H locs ls h hP hD hS (lv_sub hl [0, 1, 2] rfl)
    · have h := g_f h cz
      refine lv_aload_n hx hb dX8_readName_52 rfl (lv_at hl 0 rfl) ?_
      refine va_get (D := (dC, dI)) (ci := 8) (v := .int (iM 43)) (C := RX8) (T := TX8) (N := 78) hx hb hts ki8 hown hK hP 0 rfl rfl 43 (by decide) kf214 (fun _ h9 => h9) rfl dX8_readName_53 ?_
      refine lv_istore_n (lv' := [(2, .int (iM 43)), (0, .ref (ad 0)), (1, .int v1)]) hx hb dX8_readName_56 rfl hl (by decide) rfl (fun ls hl => ?_)
      refine lv_iconst (v := 0) hx hb dX8_readName_57 (by decide) ?_
      refine lv_istore_n (lv' := [(3, .int ((0 : Int32))), (2, .int (iM 43)), (0, .ref (ad 0)), (1, .int v1)]) hx hb dX8_readName_58 rfl hl (by decide) rfl (fun ls hl => ?_)
      exact B59 N v1 (iM 43) ((0 : Int32)) (aM 23) H locs ls h hP hD hS (lv_sub hl [2, 3, 1, 0] rfl)
  have B26 : ∀ (v1 : Int32) (v2 : Int32) (H : Heap) (locs : List Loc) (ls : Array Slot), f_M_readName_26 N (iM 4) (iM 5) (iM 43) (iM 44) (iM 45) (iM 46) (iM 47) (aM 0) (aM 9) (aM 11) (aM 12) (aM 23) (aM 24) (aM 26) (aM 27) (aM 32) (aM 33) (aM 34) (aM 35) v1 v2 = some q → va_P (dC, dI) vwCl (zzM ad cy iM aM) H → va_D A (zzM ad cy iM aM) → va_S A s.heap H locs → lv_has ls 4 [(0, .ref (ad 0)), (1, .int v1), (2, .int v2)] → W p l e ({ frames := 2, cells := 0, slots := 0, locals := 47 } : Room) s m args below meth c H locs 0 0 QQ (F0 m 26 ls []) := by
    intro v1 v2 H locs ls h hP hD hS hl
    unfold f_M_readName_26 at h
    refine lv_iload_n hx hb dX8_readName_26 rfl (lv_at hl 2 rfl) ?_
    refine lv_if_ge (tgt := 48) hx hb dX8_readName_27 (by decide) (fun cz => ?_) (fun cz => ?_)
    · have h := g_t h cz
      exact B48 v1 v2 H locs ls h hP hD hS (lv_sub hl [0, 1, 2] rfl)
    · have h := g_f h cz
      refine lv_aload_n hx hb dX8_readName_30 rfl (lv_at hl 0 rfl) ?_
      refine va_get (D := (dC, dI)) (ci := 8) (v := .int (iM 43)) (C := RX8) (T := TX8) (N := 78) hx hb hts ki8 hown hK hP 0 rfl rfl 43 (by decide) kf214 (fun _ h9 => h9) rfl dX8_readName_31 ?_
      refine lv_iconst (v := 5) hx hb dX8_readName_34 (by decide) ?_
      refine lv_icmp_ne (tgt := 48) hx hb dX8_readName_35 (by decide) (fun cz => ?_) (fun cz => ?_)
      · have h := g_f h cz
        exact B48 v1 v2 H locs ls h hP hD hS (lv_sub hl [0, 1, 2] rfl)
      · have h := g_t h cz
        refine lv_aload_n hx hb dX8_readName_38 rfl (lv_at hl 0 rfl) ?_
        refine lv_iconst (v := 3) hx hb dX8_readName_39 (by decide) ?_
        refine lv_aload_n hx hb dX8_readName_40 rfl (lv_at hl 0 rfl) ?_
        refine va_get (D := (dC, dI)) (ci := 8) (v := .int (iM 4)) (C := RX8) (T := TX8) (N := 78) hx hb hts ki8 hown hK hP 0 rfl rfl 4 (by decide) kf169 (fun _ h9 => h9) rfl dX8_readName_41 ?_
        obtain ⟨q44, e44, h⟩ := g_b h
        refine callVvs (cc := cX8_readName) (w1 := zzM ad cy (us iM [(46, q44.1), (47, q44.2)]) aM) (As := [.int ((3 : Int32)), .int (iM 4)]) (rest := []) ⟨hx, hb, hml, hown, hts⟩ (c_M_wrong l dC dI cy ad H.size ((3 : Int32)) (iM 4) iM aM q44 e44) (cwV 2 hts (goodV m_ml_X8_194 m_im_X8_wrong m_se_X8_wrong m_in_X8 m_cd_X8_wrong) rfl rfl rfl (by decide +kernel) ⟨Nat.le_of_ble_eq_true rfl, Nat.le_of_ble_eq_true rfl⟩) hN hK hP hD hS hA rfl 0 rfl rfl rfl hl.1 rfl (Nat.le_of_ble_eq_true rfl) dX8_readName_44 ⟨Nat.zero_le _, Nat.zero_le _⟩ (fun H locs hP hD hS => ?_)
        have h' := Option.some.inj h
        rw [← hQQ]
        exact W.vret hx hb hr (fun t ht hW => ⟨⟨(), rfl, trivial, by rw [← hWQ, ← h', ht]; exact hP, va_K.moved hW.alike hK⟩, hS.F ht⟩) hS.2.2 dX8_readName_47
  intro H locs hP hD hS
  unfold f_M_readName at h
  refine lv_aload_n hx hb dX8_readName_0 rfl (lv_at hl 0 rfl) ?_
  obtain ⟨q1, e1, h⟩ := g_b h
  refine callVis (cc := cX8_readName) (w1 := zzM ad cy iM aM) (As := []) (rest := []) ⟨hx, hb, hml, hown, hts⟩ (c_M_nameHere l dC dI cy ad H.size N iM aM q1 e1) (cwV 0 hts (goodV m_ml_X8_231 m_im_X8_nameHere m_se_X8_nameHere m_in_X8 m_cd_X8_nameHere) rfl rfl rfl (by decide +kernel) ⟨Nat.le_of_ble_eq_true rfl, Nat.le_of_ble_eq_true rfl⟩) hN hK hP hD hS hA rfl 0 rfl rfl rfl hl.1 rfl (Nat.le_of_ble_eq_true rfl) dX8_readName_1 ⟨Nat.zero_le _, Nat.zero_le _⟩ (fun H locs hP hD hS => ?_)
  refine lv_istore_n (lv' := [(2, .int q1), (0, .ref (ad 0)), (1, .int a1)]) hx hb dX8_readName_4 rfl hl (by decide) rfl (fun ls hl => ?_)
  refine lv_iload_n hx hb dX8_readName_5 rfl (lv_at hl 0 rfl) ?_
  refine lv_if_ge (tgt := 26) hx hb dX8_readName_6 (by decide) (fun cz => ?_) (fun cz => ?_)
  · have h := g_t h cz
    exact B26 a1 q1 H locs ls h hP hD hS (lv_sub hl [1, 2, 0] rfl)
  · have h := g_f h cz
    refine lv_aload_n hx hb dX8_readName_9 rfl (lv_at hl 1 rfl) ?_
    obtain ⟨q10, e10, h⟩ := g_b h
    refine callVis (cc := cX8_readName) (w1 := zzM ad cy iM aM) (As := []) (rest := []) ⟨hx, hb, hml, hown, hts⟩ (c_M_roleHere l dC dI cy ad H.size N iM aM q10 e10) (cwV 0 hts (goodV m_ml_X8_228 m_im_X8_roleHere m_se_X8_roleHere m_in_X8 m_cd_X8_roleHere) rfl rfl rfl (by decide +kernel) ⟨Nat.le_of_ble_eq_true rfl, Nat.le_of_ble_eq_true rfl⟩) hN hK hP hD hS hA rfl 0 rfl rfl rfl hl.1 rfl (Nat.le_of_ble_eq_true rfl) dX8_readName_10 ⟨Nat.zero_le _, Nat.zero_le _⟩ (fun H locs hP hD hS => ?_)
    refine lv_if_lt (tgt := 26) hx hb dX8_readName_13 (by decide) (fun cz => ?_) (fun cz => ?_)
    · have h := g_t h cz
      exact B26 a1 q1 H locs ls h hP hD hS (lv_sub hl [1, 2, 0] rfl)
    · have h := g_f h cz
      refine lv_aload_n hx hb dX8_readName_16 rfl (lv_at hl 1 rfl) ?_
      refine lv_iconst (v := 4) hx hb dX8_readName_17 (by decide) ?_
      refine lv_aload_n hx hb dX8_readName_18 rfl (lv_at hl 1 rfl) ?_
      refine va_get (D := (dC, dI)) (ci := 8) (v := .int (iM 4)) (C := RX8) (T := TX8) (N := 78) hx hb hts ki8 hown hK hP 0 rfl rfl 4 (by decide) kf169 (fun _ h9 => h9) rfl dX8_readName_19 ?_
      obtain ⟨q22, e22, h⟩ := g_b h
      refine callVvs (cc := cX8_readName) (w1 := zzM ad cy (us iM [(46, q22.1), (47, q22.2)]) aM) (As := [.int ((4 : Int32)), .int (iM 4)]) (rest := []) ⟨hx, hb, hml, hown, hts⟩ (c_M_wrong l dC dI cy ad H.size ((4 : Int32)) (iM 4) iM aM q22 e22) (cwV 2 hts (goodV m_ml_X8_194 m_im_X8_wrong m_se_X8_wrong m_in_X8 m_cd_X8_wrong) rfl rfl rfl (by decide +kernel) ⟨Nat.le_of_ble_eq_true rfl, Nat.le_of_ble_eq_true rfl⟩) hN hK hP hD hS hA rfl 0 rfl rfl rfl hl.1 rfl (Nat.le_of_ble_eq_true rfl) dX8_readName_22 ⟨Nat.zero_le _, Nat.zero_le _⟩ (fun H locs hP hD hS => ?_)
      have h' := Option.some.inj h
      rw [← hQQ]
      exact W.vret hx hb hr (fun t ht hW => ⟨⟨(), rfl, trivial, by rw [← hWQ, ← h', ht]; exact hP, va_K.moved hW.alike hK⟩, hS.F ht⟩) hS.2.2 dX8_readName_25
