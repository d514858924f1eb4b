def f_M_findAtom_72 (N : Nat) (iM45 : Int32) (iM46 : Int32) (iM47 : Int32) (aM8 : Nat → Int32) (aM9 : Nat → Int32) (aM10 : Nat → Int32) (aM11 : Nat → Int32) (aM12 : Nat → Int32) (aM32 : Nat → Int32) (aM33 : Nat → Int32) (aM34 : Nat → Int32) (aM35 : Nat → Int32) (aM50 : Nat → Int32) (aM51 : Nat → Int32) (v1 : Int32) (v2 : Int32) (v3 : Int32) : Nat → Int32 → (Nat → Int32) → (Nat → Int32) → (Nat → Int32) → Option (Int32 × Int32 × Int32 × (Nat → Int32) × (Nat → Int32) × (Nat → Int32) × (Nat → Int32) × (Nat → Int32) × (Nat → Int32) × (Nat → Int32))
  | 0, _, _, _, _ => none
  | n + 1, v4, x_aM11, x_aM50, x_aM51 => if iM45 ≤ v4 then (if v1 < 0 ∨ 400 ≤ v1.toNatClampNeg then none else (if 0 ≤ (x_aM11 v1.toNatClampNeg) then (some (iM45, iM46, iM47, x_aM11, aM32, aM33, aM34, aM35, x_aM50, x_aM51)) else ((f_M_newAtom v1 ((aM9 v1.toNatClampNeg)) ((-1 : Int32)) v3 v2 iM45 iM46 iM47 x_aM11 aM12 aM32 aM33 aM34 aM35).bind fun q166 => (some (q166.1, q166.2.1, q166.2.2.1, q166.2.2.2.1, q166.2.2.2.2.1, q166.2.2.2.2.2.1, q166.2.2.2.2.2.2.1, q166.2.2.2.2.2.2.2, x_aM50, x_aM51))))) else (if ((9 : Int32) + v4) < 0 ∨ 18 ≤ (((9 : Int32) + v4)).toNatClampNeg then none else (if v1 < 0 ∨ 400 ≤ v1.toNatClampNeg then none else (if (aM32 (((9 : Int32) + v4)).toNatClampNeg) = (aM9 v1.toNatClampNeg) then (if (aM35 (((9 : Int32) + v4)).toNatClampNeg) = v2 then ((f_M_areLike N ((aM34 (((9 : Int32) + v4)).toNatClampNeg)) v3 aM8 aM9 aM10 x_aM50 x_aM51).bind fun q126 => (if q126.1 = 0 then (f_M_findAtom_72 N iM45 iM46 iM47 aM8 aM9 aM10 aM11 aM12 aM32 aM33 aM34 aM35 aM50 aM51 v1 v2 v3 n ((v4 + (1 : Int32))) x_aM11 q126.2.1 q126.2.2) else (f_M_findAtom_72 N iM45 iM46 iM47 aM8 aM9 aM10 aM11 aM12 aM32 aM33 aM34 aM35 aM50 aM51 v1 v2 v3 n ((v4 + (1 : Int32))) ((upd x_aM11 v1.toNatClampNeg v4)) q126.2.1 q126.2.2))) else (f_M_findAtom_72 N iM45 iM46 iM47 aM8 aM9 aM10 aM11 aM12 aM32 aM33 aM34 aM35 aM50 aM51 v1 v2 v3 n ((v4 + (1 : Int32))) x_aM11 x_aM50 x_aM51)) else (f_M_findAtom_72 N iM45 iM46 iM47 aM8 aM9 aM10 aM11 aM12 aM32 aM33 aM34 aM35 aM50 aM51 v1 v2 v3 n ((v4 + (1 : Int32))) x_aM11 x_aM50 x_aM51))))
def f_M_findAtom_46 (N : Nat) (iM45 : Int32) (iM46 : Int32) (iM47 : Int32) (aM8 : Nat → Int32) (aM9 : Nat → Int32) (aM10 : Nat → Int32) (aM11 : Nat → Int32) (aM12 : Nat → Int32) (aM32 : Nat → Int32) (aM33 : Nat → Int32) (aM34 : Nat → Int32) (aM35 : Nat → Int32) (aM50 : Nat → Int32) (aM51 : Nat → Int32) (v1 : Int32) (v2 : Int32) (v3 : Int32) : Option (Int32 × Int32 × Int32 × (Nat → Int32) × (Nat → Int32) × (Nat → Int32) × (Nat → Int32) × (Nat → Int32) × (Nat → Int32) × (Nat → Int32)) := if v2 = 0 then (if v3 < 0 ∨ 400 ≤ v3.toNatClampNeg then none else (if (aM8 v3.toNatClampNeg) = (3 : Int32) then (f_M_findAtom_72 N iM45 iM46 iM47 aM8 aM9 aM10 aM11 aM12 aM32 aM33 aM34 aM35 aM50 aM51 v1 ((1 : Int32)) ((aM10 v3.toNatClampNeg)) N ((0 : Int32)) aM11 aM50 aM51) else (f_M_findAtom_72 N iM45 iM46 iM47 aM8 aM9 aM10 aM11 aM12 aM32 aM33 aM34 aM35 aM50 aM51 v1 v2 v3 N ((0 : Int32)) aM11 aM50 aM51))) else (f_M_findAtom_72 N iM45 iM46 iM47 aM8 aM9 aM10 aM11 aM12 aM32 aM33 aM34 aM35 aM50 aM51 v1 v2 v3 N ((0 : Int32)) aM11 aM50 aM51)
def f_M_findAtom_15 (N : Nat) (iM45 : Int32) (iM46 : Int32) (iM47 : Int32) (aM8 : Nat → Int32) (aM9 : Nat → Int32) (aM10 : Nat → Int32) (aM11 : Nat → Int32) (aM12 : Nat → Int32) (aM32 : Nat → Int32) (aM33 : Nat → Int32) (aM34 : Nat → Int32) (aM35 : Nat → Int32) (aM50 : Nat → Int32) (aM51 : Nat → Int32) (v1 : Int32) (s0 : Int32) : Option (Int32 × Int32 × Int32 × (Nat → Int32) × (Nat → Int32) × (Nat → Int32) × (Nat → Int32) × (Nat → Int32) × (Nat → Int32) × (Nat → Int32)) := if v1 < 0 ∨ 400 ≤ v1.toNatClampNeg then none else (if s0 = 0 then (f_M_findAtom_46 N iM45 iM46 iM47 aM8 aM9 aM10 aM11 aM12 aM32 aM33 aM34 aM35 aM50 aM51 v1 s0 ((aM10 v1.toNatClampNeg))) else (if (aM10 v1.toNatClampNeg) < 0 ∨ 400 ≤ ((aM10 v1.toNatClampNeg)).toNatClampNeg then none else (if (aM8 ((aM10 v1.toNatClampNeg)).toNatClampNeg) = (3 : Int32) then (f_M_findAtom_46 N iM45 iM46 iM47 aM8 aM9 aM10 aM11 aM12 aM32 aM33 aM34 aM35 aM50 aM51 v1 ((0 : Int32)) ((aM10 ((aM10 v1.toNatClampNeg)).toNatClampNeg))) else (f_M_findAtom_46 N iM45 iM46 iM47 aM8 aM9 aM10 aM11 aM12 aM32 aM33 aM34 aM35 aM50 aM51 v1 s0 ((aM10 v1.toNatClampNeg))))))
def f_M_findAtom (N : Nat) (a1 : Int32) (iM45 : Int32) (iM46 : Int32) (iM47 : Int32) (aM8 : Nat → Int32) (aM9 : Nat → Int32) (aM10 : Nat → Int32) (aM11 : Nat → Int32) (aM12 : Nat → Int32) (aM32 : Nat → Int32) (aM33 : Nat → Int32) (aM34 : Nat → Int32) (aM35 : Nat → Int32) (aM50 : Nat → Int32) (aM51 : Nat → Int32) : Option (Int32 × Int32 × Int32 × (Nat → Int32) × (Nat → Int32) × (Nat → Int32) × (Nat → Int32) × (Nat → Int32) × (Nat → Int32) × (Nat → Int32)) := if a1 < 0 ∨ 400 ≤ a1.toNatClampNeg then none else (if (aM8 a1.toNatClampNeg) = (5 : Int32) then (f_M_findAtom_15 N iM45 iM46 iM47 aM8 aM9 aM10 aM11 aM12 aM32 aM33 aM34 aM35 aM50 aM51 a1 ((1 : Int32))) else (f_M_findAtom_15 N iM45 iM46 iM47 aM8 aM9 aM10 aM11 aM12 aM32 aM33 aM34 aM35 aM50 aM51 a1 ((0 : Int32))))
set_option maxHeartbeats 8000000 in
set_option maxRecDepth 100000 in
theorem c_M_findAtom (l : Launch) (dC : Nat → ClassId) (dI : Nat → Nat → Nat) (cy : Nat → ClassId) (ad : Nat → Nat) (sz : Nat) (N : Nat) (a1 : Int32) (iM : Nat → Int32) (aM : Nat → Nat → Int32) (q : Int32 × Int32 × Int32 × (Nat → Int32) × (Nat → Int32) × (Nat → Int32) × (Nat → Int32) × (Nat → Int32) × (Nat → Int32) × (Nat → Int32)) (h : f_M_findAtom N a1 (iM 45) (iM 46) (iM 47) (aM 8) (aM 9) (aM 10) (aM 11) (aM 12) (aM 32) (aM 33) (aM 34) (aM 35) (aM 50) (aM 51) = some q) : Met l yX8_findAtom wsX8_findAtom ({ frames := 2, cells := 0, slots := 0, locals := 47 } : Room) (cP (dC, dI) cy [.ref (ad 0), .int a1] (zzM ad cy iM aM) sz) (cQv (dC, dI) cy (zzM ad cy (us iM [(45, q.1), (46, q.2.1), (47, q.2.2.1)]) (us aM [(11, q.2.2.2.1), (32, q.2.2.2.2.1), (33, q.2.2.2.2.2.1), (34, q.2.2.2.2.2.2.1), (35, q.2.2.2.2.2.2.2.1), (50, q.2.2.2.2.2.2.2.2.1), (51, q.2.2.2.2.2.2.2.2.2)])) (va_A (zzM ad cy iM aM) sz)) 0 0 (va_A (zzM ad cy iM aM) sz) := by
  refine Met.ofW (cc := cX8_findAtom) (maxL := 5) (ret := none) (by decide) rfl ?_
  intro p e s m args below meth c s₁ B hml hv
  obtain ⟨hav, hsz, hP, hK, hD0, hN⟩ := hv
  have hx := B.exec
  have hb := B.bytes
  have hr := B.returns
  have hts := atoms_spec (ws := wsX8_findAtom) B.pre
  have hown : s.vm.findClass RX8 = some m.cls := findClass_of_methodNamed B.named
  have hlocks := B.notSynchronized
  subst hsz
  have hD := hD0.self (sz := s.heap.size)
  generalize hAe : va_A (zzM ad cy iM aM) s.heap.size = A at hD ⊢
  have hA : ∀ q : Nat, s.heap.size ≤ q → A q := fun q h => by rw [← hAe]; exact Or.inr h
  have hS : va_S A s.heap s.heap [] := va_S.rf
  generalize hWQ : (zzM ad cy (us iM [(45, q.1), (46, q.2.1), (47, q.2.2.1)]) (us aM [(11, q.2.2.2.1), (32, q.2.2.2.2.1), (33, q.2.2.2.2.2.1), (34, q.2.2.2.2.2.2.1), (35, q.2.2.2.2.2.2.2.1), (50, q.2.2.2.2.2.2.2.2.1), (51, q.2.2.2.2.2.2.2.2.2)])) = WQ
  generalize hQQ : MQ below (cQv (dC, dI) cy WQ A) args s 0 0 A = QQ
  have hl := lv_entry ([.ref (ad 0), .int a1] : List Value) (n := 5) (Nat.le_of_ble_eq_true rfl)
  have hfr := lg_entry_eq m ([.ref (ad 0), .int a1] : List Value) 5
  rw [← hav] at hfr
  rw [hfr]
  clear hfr hav
  generalize (lg_sl ([.ref (ad 0), .int a1] : List Value) ++ List.replicate (5 - (lg_sl ([.ref (ad 0), .int a1] : List Value)).length) Slot.unset).toArray = ls at hl ⊢
  have hl : lv_has ls 5 [(0, .ref (ad 0)), (1, .int a1)] := hl
  have kf234 := hts _ (List.mem_cons_of_mem _ m_fl_X8_234)
  have ki8 := (fun w h => List.mem_cons_of_mem _ (i_X8 w h) : ∀ w ∈ u_ws RX8 TX8 78, w ∈ wsX8_findAtom)
  have kf27 := hts _ (List.mem_cons_of_mem _ m_fl_X8_27)
  have kf21 := hts _ (List.mem_cons_of_mem _ m_fl_X8_21)
  have kf73 := hts _ (List.mem_cons_of_mem _ m_fl_X8_73)
  have kf82 := hts _ (List.mem_cons_of_mem _ m_fl_X8_82)
  have kf79 := hts _ (List.mem_cons_of_mem _ m_fl_X8_79)
  have kf17 := hts _ (List.mem_cons_of_mem _ m_fl_X8_17)
  have kf24 := hts _ (List.mem_cons_of_mem _ m_fl_X8_24)
  refine (?_ : ∀ (H : Heap) (locs : List Loc), va_P (dC, dI) vwCl (zzM ad cy iM aM) H → va_D A (zzM ad cy iM aM) → va_S A s.heap H locs → W p l e ({ frames := 2, cells := 0, slots := 0, locals := 47 } : Room) s m args below meth c H locs 0 0 QQ (F0 m 0 ls [])) s.heap [] hP hD hS
  clear hP hD hS
  have B72 : ∀ (n : Nat) (v1 : Int32) (v2 : Int32) (v3 : Int32) (v4 : Int32) (x_aM11 : Nat → Int32) (x_aM50 : Nat → Int32) (x_aM51 : Nat → Int32) (H : Heap) (locs : List Loc) (ls : Array Slot), f_M_findAtom_72 N (iM 45) (iM 46) (iM 47) (aM 8) (aM 9) (aM 10) (aM 11) (aM 12) (aM 32) (aM 33) (aM 34) (aM 35) (aM 50) (aM 51) v1 v2 v3 n v4 x_aM11 x_aM50 x_aM51 = some q → va_P (dC, dI) vwCl (zzM ad cy iM (us aM [(11, x_aM11), (50, x_aM50), (51, x_aM51)])) H → va_D A (zzM ad cy iM (us aM [(11, x_aM11), (50, x_aM50), (51, x_aM51)])) → va_S A s.heap H locs → lv_has ls 5 [(0, .ref (ad 0)), (1, .int v1), (2, .int v2), (3, .int v3), (4, .int v4)] → W p l e ({ frames := 2, cells := 0, slots := 0, locals := 47 } : Room) s m args below meth c H locs 0 0 QQ (F0 m 72 ls []) := by
    intro n
    induction n with
    | zero =>
      intro v1 v2 v3 v4 x_aM11 x_aM50 x_aM51 H locs ls h hP hD hS hl
      rw [f_M_findAtom_72] at h
      cases h
    | succ n ih =>
      intro v1 v2 v3 v4 x_aM11 x_aM50 x_aM51 H locs ls h hP hD hS hl
      rw [f_M_findAtom_72] at h
      refine lv_iload hx hb dX8_findAtom_72 (lv_at hl 4 rfl) ?_
      refine lv_aload_n hx hb dX8_findAtom_74 rfl (lv_at hl 0 rfl) ?_
      refine va_get (D := (dC, dI)) (ci := 8) (v := .int (iM 45)) (C := RX8) (T := TX8) (N := 78) hx hb hts ki8 hown hK hP 0 rfl rfl 45 (by decide) kf234 (fun _ h9 => h9) rfl dX8_findAtom_75 ?_
      refine lv_icmp_ge (tgt := 146) hx hb dX8_findAtom_78 (by decide) (fun cz => ?_) (fun cz => ?_)
      · have h := g_t h cz
        refine lv_aload_n hx hb dX8_findAtom_146 rfl (lv_at hl 0 rfl) ?_
        refine va_get (D := (dC, dI)) (ci := 8) (v := .ref (ad 6)) (C := RX8) (T := TX8) (N := 78) hx hb hts ki8 hown hK hP 0 rfl rfl 11 (by decide) kf27 (fun _ h9 => h9) rfl dX8_findAtom_147 ?_
        refine lv_iload_n hx hb dX8_findAtom_150 rfl (lv_at hl 1 rfl) ?_
        obtain ⟨g_62, h⟩ := g_n h
        refine va_iald (f := x_aM11) hx hb hK hP 6 0 rfl rfl g_62 dX8_findAtom_151 ?_
        refine lv_if_ge (tgt := 169) hx hb dX8_findAtom_152 (by decide) (fun cz => ?_) (fun cz => ?_)
        · have h := g_t h cz
          have h' := Option.some.inj h
          rw [← hQQ]
          exact W.vret hx hb hr (fun t ht hW => ⟨⟨(), rfl, trivial, by rw [← hWQ, ← h', ht]; exact hP, va_K.moved hW.alike hK⟩, hS.F ht⟩) hS.2.2 dX8_findAtom_169
        · have h := g_f h cz
          refine lv_aload_n hx hb dX8_findAtom_155 rfl (lv_at hl 0 rfl) ?_
          refine lv_iload_n hx hb dX8_findAtom_156 rfl (lv_at hl 1 rfl) ?_
          refine lv_aload_n hx hb dX8_findAtom_157 rfl (lv_at hl 0 rfl) ?_
          refine va_get (D := (dC, dI)) (ci := 8) (v := .ref (ad 4)) (C := RX8) (T := TX8) (N := 78) hx hb hts ki8 hown hK hP 0 rfl rfl 9 (by decide) kf21 (fun _ h9 => h9) rfl dX8_findAtom_158 ?_
          refine lv_iload_n hx hb dX8_findAtom_161 rfl (lv_at hl 1 rfl) ?_
          refine va_iald (f := (aM 9)) hx hb hK hP 4 0 rfl rfl g_62 dX8_findAtom_162 ?_
          refine lv_iconst (v := (-1)) hx hb dX8_findAtom_163 (by decide) ?_
          refine lv_iload_n hx hb dX8_findAtom_164 rfl (lv_at hl 3 rfl) ?_
          refine lv_iload_n hx hb dX8_findAtom_165 rfl (lv_at hl 2 rfl) ?_
          obtain ⟨q166, e166, h⟩ := g_b h
          refine callVvs (cc := cX8_findAtom) (w1 := zzM ad cy (us iM [(45, q166.1), (46, q166.2.1), (47, q166.2.2.1)]) (us aM [(11, q166.2.2.2.1), (32, q166.2.2.2.2.1), (33, q166.2.2.2.2.2.1), (34, q166.2.2.2.2.2.2.1), (35, q166.2.2.2.2.2.2.2), (50, x_aM50), (51, x_aM51)])) (As := [.int v1, .int (((aM 9) v1.toNatClampNeg)), .int ((-1 : Int32)), .int v3, .int v2]) (rest := []) ⟨hx, hb, hml, hown, hts⟩ (c_M_newAtom l dC dI cy ad H.size v1 (((aM 9) v1.toNatClampNeg)) ((-1 : Int32)) v3 v2 iM ((us aM [(11, x_aM11), (50, x_aM50), (51, x_aM51)])) q166 e166) (cwV 5 hts (goodV m_ml_X8_237 m_im_X8_newAtom m_se_X8_newAtom m_in_X8 m_cd_X8_newAtom) rfl rfl rfl (by decide +kernel) ⟨Nat.le_of_ble_eq_true rfl, Nat.le_of_ble_eq_true rfl⟩) hN hK hP hD hS hA rfl 0 rfl rfl rfl hl.1 rfl (Nat.le_of_ble_eq_true rfl) dX8_findAtom_166 ⟨Nat.zero_le _, Nat.zero_le _⟩ (fun H locs hP hD hS => ?_)
          have h' := Option.some.inj h
          rw [← hQQ]
          exact W.vret hx hb hr (fun t ht hW => ⟨⟨(), rfl, trivial, by rw [← hWQ, ← h', ht]; exact hP, va_K.moved hW.alike hK⟩, hS.F ht⟩) hS.2.2 dX8_findAtom_169
      · have h := g_f h cz
        refine lv_aload_n hx hb dX8_findAtom_81 rfl (lv_at hl 0 rfl) ?_
        refine va_get (D := (dC, dI)) (ci := 8) (v := .ref (ad 21)) (C := RX8) (T := TX8) (N := 78) hx hb hts ki8 hown hK hP 0 rfl rfl 32 (by decide) kf73 (fun _ h9 => h9) rfl dX8_findAtom_82 ?_
        refine lv_bipush (v := 9) hx hb dX8_findAtom_85 (by decide) ?_
        refine lv_iload hx hb dX8_findAtom_87 (lv_at hl 4 rfl) ?_
        refine lv_iadd hx hb dX8_findAtom_89 ?_
        obtain ⟨g_74, h⟩ := g_n h
        refine va_iald (f := (aM 32)) hx hb hK hP 21 0 rfl rfl g_74 dX8_findAtom_90 ?_
        refine lv_aload_n hx hb dX8_findAtom_91 rfl (lv_at hl 0 rfl) ?_
        refine va_get (D := (dC, dI)) (ci := 8) (v := .ref (ad 4)) (C := RX8) (T := TX8) (N := 78) hx hb hts ki8 hown hK hP 0 rfl rfl 9 (by decide) kf21 (fun _ h9 => h9) rfl dX8_findAtom_92 ?_
        refine lv_iload_n hx hb dX8_findAtom_95 rfl (lv_at hl 1 rfl) ?_
        obtain ⟨g_62, h⟩ := g_n h
        refine va_iald (f := (aM 9)) hx hb hK hP 4 0 rfl rfl g_62 dX8_findAtom_96 ?_
        refine lv_icmp_ne (tgt := 140) hx hb dX8_findAtom_97 (by decide) (fun cz => ?_) (fun cz => ?_)
        · have h := g_f h cz
          refine lv_iinc (v := (v4 + (1 : Int32))) (lv' := [(4, .int ((v4 + (1 : Int32)))), (0, .ref (ad 0)), (1, .int v1), (2, .int v2), (3, .int v3)]) hx hb dX8_findAtom_140 hl (k := 4) rfl rfl (by decide) rfl (fun ls hl => ?_)
          refine lv_goto (tgt := 72) hx hb dX8_findAtom_143 (by decide) ?_
          exact ih v1 v2 v3 ((v4 + (1 : Int32))) x_aM11 x_aM50 x_aM51 H locs ls h hP hD hS (lv_sub hl [1, 2, 3, 4, 0] rfl)
        · have h := g_t h cz
          refine lv_aload_n hx hb dX8_findAtom_100 rfl (lv_at hl 0 rfl) ?_
          refine va_get (D := (dC, dI)) (ci := 8) (v := .ref (ad 24)) (C := RX8) (T := TX8) (N := 78) hx hb hts ki8 hown hK hP 0 rfl rfl 35 (by decide) kf82 (fun _ h9 => h9) rfl dX8_findAtom_101 ?_
          refine lv_bipush (v := 9) hx hb dX8_findAtom_104 (by decide) ?_
          refine lv_iload hx hb dX8_findAtom_106 (lv_at hl 4 rfl) ?_
          refine lv_iadd hx hb dX8_findAtom_108 ?_
          refine va_zald (f := (aM 35)) hx hb hK hP 24 4 rfl rfl g_74 dX8_findAtom_109 ?_
          refine lv_iload_n hx hb dX8_findAtom_110 rfl (lv_at hl 2 rfl) ?_
          refine lv_icmp_ne (tgt := 140) hx hb dX8_findAtom_111 (by decide) (fun cz => ?_) (fun cz => ?_)
          · have h := g_f h cz
            refine lv_iinc (v := (v4 + (1 : Int32))) (lv' := [(4, .int ((v4 + (1 : Int32)))), (0, .ref (ad 0)), (1, .int v1), (2, .int v2), (3, .int v3)]) hx hb dX8_findAtom_140 hl (k := 4) rfl rfl (by decide) rfl (fun ls hl => ?_)
            refine lv_goto (tgt := 72) hx hb dX8_findAtom_143 (by decide) ?_
            exact ih v1 v2 v3 ((v4 + (1 : Int32))) x_aM11 x_aM50 x_aM51 H locs ls h hP hD hS (lv_sub hl [1, 2, 3, 4, 0] rfl)
          · have h := g_t h cz
            refine lv_aload_n hx hb dX8_findAtom_114 rfl (lv_at hl 0 rfl) ?_
            refine lv_aload_n hx hb dX8_findAtom_115 rfl (lv_at hl 0 rfl) ?_
            refine va_get (D := (dC, dI)) (ci := 8) (v := .ref (ad 23)) (C := RX8) (T := TX8) (N := 78) hx hb hts ki8 hown hK hP 0 rfl rfl 34 (by decide) kf79 (fun _ h9 => h9) rfl dX8_findAtom_116 ?_
            refine lv_bipush (v := 9) hx hb dX8_findAtom_119 (by decide) ?_
            refine lv_iload hx hb dX8_findAtom_121 (lv_at hl 4 rfl) ?_
            refine lv_iadd hx hb dX8_findAtom_123 ?_
            refine va_iald (f := (aM 34)) hx hb hK hP 23 0 rfl rfl g_74 dX8_findAtom_124 ?_
            refine lv_iload_n hx hb dX8_findAtom_125 rfl (lv_at hl 3 rfl) ?_
            obtain ⟨q126, e126, h⟩ := g_b h
            refine callVis (cc := cX8_findAtom) (w1 := zzM ad cy iM (us aM [(11, x_aM11), (50, q126.2.1), (51, q126.2.2)])) (As := [.int (((aM 34) (((9 : Int32) + v4)).toNatClampNeg)), .int v3]) (rest := []) ⟨hx, hb, hml, hown, hts⟩ (c_M_areLike l dC dI cy ad H.size N (((aM 34) (((9 : Int32) + v4)).toNatClampNeg)) v3 iM ((us aM [(11, x_aM11), (50, x_aM50), (51, x_aM51)])) q126 e126) (cwV 2 hts (goodV m_ml_X8_241 m_im_X8_areLike m_se_X8_areLike m_in_X8 m_cd_X8_areLike) rfl rfl rfl (by decide +kernel) ⟨Nat.le_of_ble_eq_true rfl, Nat.le_of_ble_eq_true rfl⟩) hN hK hP hD hS hA rfl 0 rfl rfl rfl hl.1 rfl (Nat.le_of_ble_eq_true rfl) dX8_findAtom_126 ⟨Nat.zero_le _, Nat.zero_le _⟩ (fun H locs hP hD hS => ?_)
            refine lv_if_eq (tgt := 140) hx hb dX8_findAtom_129 (by decide) (fun cz => ?_) (fun cz => ?_)
            · have h := g_t h cz
              refine lv_iinc (v := (v4 + (1 : Int32))) (lv' := [(4, .int ((v4 + (1 : Int32)))), (0, .ref (ad 0)), (1, .int v1), (2, .int v2), (3, .int v3)]) hx hb dX8_findAtom_140 hl (k := 4) rfl rfl (by decide) rfl (fun ls hl => ?_)
              refine lv_goto (tgt := 72) hx hb dX8_findAtom_143 (by decide) ?_
              exact ih v1 v2 v3 ((v4 + (1 : Int32))) x_aM11 q126.2.1 q126.2.2 H locs ls h hP hD hS (lv_sub hl [1, 2, 3, 4, 0] rfl)
            · have h := g_f h cz
              refine lv_aload_n hx hb dX8_findAtom_132 rfl (lv_at hl 0 rfl) ?_
              refine va_get (D := (dC, dI)) (ci := 8) (v := .ref (ad 6)) (C := RX8) (T := TX8) (N := 78) hx hb hts ki8 hown hK hP 0 rfl rfl 11 (by decide) kf27 (fun _ h9 => h9) rfl dX8_findAtom_133 ?_
              refine lv_iload_n hx hb dX8_findAtom_136 rfl (lv_at hl 1 rfl) ?_
              refine lv_iload hx hb dX8_findAtom_137 (lv_at hl 4 rfl) ?_
              refine va_iast (f := x_aM11) hx hb hK hP hD hS 6 0 rfl rfl g_62 dX8_findAtom_139 (fun H locs hP hD hS => ?_)
              have hP : va_P (dC, dI) vwCl (zzM ad cy iM (us aM [(11, (upd x_aM11 v1.toNatClampNeg v4)), (50, q126.2.1), (51, q126.2.2)])) H := Eq.mp (congrArg (fun w => va_P (dC, dI) vwCl w H) (stM_aM11 ad cy iM aM [(11, x_aM11), (50, q126.2.1), (51, q126.2.2)] ((upd x_aM11 v1.toNatClampNeg v4)))) hP
              have hD : va_D A (zzM ad cy iM (us aM [(11, (upd x_aM11 v1.toNatClampNeg v4)), (50, q126.2.1), (51, q126.2.2)])) := Eq.mp (congrArg (fun w => va_D A w) (stM_aM11 ad cy iM aM [(11, x_aM11), (50, q126.2.1), (51, q126.2.2)] ((upd x_aM11 v1.toNatClampNeg v4)))) hD
              refine lv_iinc (v := (v4 + (1 : Int32))) (lv' := [(4, .int ((v4 + (1 : Int32)))), (0, .ref (ad 0)), (1, .int v1), (2, .int v2), (3, .int v3)]) hx hb dX8_findAtom_140 hl (k := 4) rfl rfl (by decide) rfl (fun ls hl => ?_)
              refine lv_goto (tgt := 72) hx hb dX8_findAtom_143 (by decide) ?_
              exact ih v1 v2 v3 ((v4 + (1 : Int32))) ((upd x_aM11 v1.toNatClampNeg v4)) q126.2.1 q126.2.2 H locs ls h hP hD hS (lv_sub hl [1, 2, 3, 4, 0] rfl)
  have B46 : ∀ (v1 : Int32) (v2 : Int32) (v3 : Int32) (H : Heap) (locs : List Loc) (ls : Array Slot), f_M_findAtom_46 N (iM 45) (iM 46) (iM 47) (aM 8) (aM 9) (aM 10) (aM 11) (aM 12) (aM 32) (aM 33) (aM 34) (aM 35) (aM 50) (aM 51) v1 v2 v3 = some q → va_P (dC, dI) vwCl (zzM ad cy iM aM) H → va_D A (zzM ad cy iM aM) → va_S A s.heap H locs → lv_has ls 5 [(0, .ref (ad 0)), (1, .int v1), (2, .int v2), (3, .int v3)] → W p l e ({ frames := 2, cells := 0, slots := 0, locals := 47 } : Room) s m args below meth c H locs 0 0 QQ (F0 m 46 ls []) := by
    intro v1 v2 v3 H locs ls h hP hD hS hl
    unfold f_M_findAtom_46 at h
    refine lv_iload_n hx hb dX8_findAtom_46 rfl (lv_at hl 2 rfl) ?_
    refine lv_if_ne (tgt := 69) hx hb dX8_findAtom_47 (by decide) (fun cz => ?_) (fun cz => ?_)
    · have h := g_f h cz
      refine lv_iconst (v := 0) hx hb dX8_findAtom_69 (by decide) ?_
      refine lv_istore (lv' := [(4, .int ((0 : Int32))), (0, .ref (ad 0)), (1, .int v1), (2, .int v2), (3, .int v3)]) hx hb dX8_findAtom_70 hl (by decide) rfl (fun ls hl => ?_)
      exact B72 N v1 v2 v3 ((0 : Int32)) (aM 11) (aM 50) (aM 51) H locs ls h hP hD hS (lv_sub hl [1, 2, 3, 4, 0] rfl)
    · have h := g_t h cz
      refine lv_aload_n hx hb dX8_findAtom_50 rfl (lv_at hl 0 rfl) ?_
      refine va_get (D := (dC, dI)) (ci := 8) (v := .ref (ad 3)) (C := RX8) (T := TX8) (N := 78) hx hb hts ki8 hown hK hP 0 rfl rfl 8 (by decide) kf17 (fun _ h9 => h9) rfl dX8_findAtom_51 ?_
      refine lv_iload_n hx hb dX8_findAtom_54 rfl (lv_at hl 3 rfl) ?_
      obtain ⟨g_68, h⟩ := g_n h
      refine va_iald (f := (aM 8)) hx hb hK hP 3 0 rfl rfl g_68 dX8_findAtom_55 ?_
      refine lv_iconst (v := 3) hx hb dX8_findAtom_56 (by decide) ?_
      refine lv_icmp_ne (tgt := 69) hx hb dX8_findAtom_57 (by decide) (fun cz => ?_) (fun cz => ?_)
      · have h := g_f h cz
        refine lv_iconst (v := 0) hx hb dX8_findAtom_69 (by decide) ?_
        refine lv_istore (lv' := [(4, .int ((0 : Int32))), (0, .ref (ad 0)), (1, .int v1), (2, .int v2), (3, .int v3)]) hx hb dX8_findAtom_70 hl (by decide) rfl (fun ls hl => ?_)
        exact B72 N v1 v2 v3 ((0 : Int32)) (aM 11) (aM 50) (aM 51) H locs ls h hP hD hS (lv_sub hl [1, 2, 3, 4, 0] rfl)
      · have h := g_t h cz
        refine lv_iconst (v := 1) hx hb dX8_findAtom_60 (by decide) ?_
        refine lv_istore_n (lv' := [(2, .int ((1 : Int32))), (0, .ref (ad 0)), (1, .int v1), (3, .int v3)]) hx hb dX8_findAtom_61 rfl hl (by decide) rfl (fun ls hl => ?_)
        refine lv_aload_n hx hb dX8_findAtom_62 rfl (lv_at hl 1 rfl) ?_
        refine va_get (D := (dC, dI)) (ci := 8) (v := .ref (ad 5)) (C := RX8) (T := TX8) (N := 78) hx hb hts ki8 hown hK hP 0 rfl rfl 10 (by decide) kf24 (fun _ h9 => h9) rfl dX8_findAtom_63 ?_
        refine lv_iload_n hx hb dX8_findAtom_66 rfl (lv_at hl 3 rfl) ?_
        refine va_iald (f := (aM 10)) hx hb hK hP 5 0 rfl rfl g_68 dX8_findAtom_67 ?_
        refine lv_istore_n (lv' := [(3, .int (((aM 10) v3.toNatClampNeg))), (2, .int ((1 : Int32))), (0, .ref (ad 0)), (1, .int v1)]) hx hb dX8_findAtom_68 rfl hl (by decide) rfl (fun ls hl => ?_)
        refine lv_iconst (v := 0) hx hb dX8_findAtom_69 (by decide) ?_
        refine lv_istore (lv' := [(4, .int ((0 : Int32))), (3, .int (((aM 10) v3.toNatClampNeg))), (2, .int ((1 : Int32))), (0, .ref (ad 0)), (1, .int v1)]) hx hb dX8_findAtom_70 hl (by decide) rfl (fun ls hl => ?_)
        exact B72 N v1 ((1 : Int32)) (((aM 10) v3.toNatClampNeg)) ((0 : Int32)) (aM 11) (aM 50) (aM 51) H locs ls h hP hD hS (lv_sub hl [3, 4, 2, 1, 0] rfl)
  have B15 : ∀ (v1 : Int32) (s0 : Int32) (H : Heap) (locs : List Loc) (ls : Array Slot), f_M_findAtom_15 N (iM 45) (iM 46) (iM 47) (aM 8) (aM 9) (aM 10) (aM 11) (aM 12) (aM 32) (aM 33) (aM 34) (aM 35) (aM 50) (aM 51) v1 s0 = some q → va_P (dC, dI) vwCl (zzM ad cy iM aM) H → va_D A (zzM ad cy iM aM) → va_S A s.heap H locs → lv_has ls 5 [(0, .ref (ad 0)), (1, .int v1)] → W p l e ({ frames := 2, cells := 0, slots := 0, locals := 47 } : Room) s m args below meth c H locs 0 0 QQ (F0 m 15 ls [.int s0]) := by
    intro v1 s0 H locs ls h hP hD hS hl
    unfold f_M_findAtom_15 at h
    refine lv_istore_n (lv' := [(2, .int s0), (0, .ref (ad 0)), (1, .int v1)]) hx hb dX8_findAtom_15 rfl hl (by decide) rfl (fun ls hl => ?_)
    refine lv_aload_n hx hb dX8_findAtom_16 rfl (lv_at hl 1 rfl) ?_
    refine va_get (D := (dC, dI)) (ci := 8) (v := .ref (ad 5)) (C := RX8) (T := TX8) (N := 78) hx hb hts ki8 hown hK hP 0 rfl rfl 10 (by decide) kf24 (fun _ h9 => h9) rfl dX8_findAtom_17 ?_
    refine lv_iload_n hx hb dX8_findAtom_20 rfl (lv_at hl 2 rfl) ?_
    obtain ⟨g_62, h⟩ := g_n h
    refine va_iald (f := (aM 10)) hx hb hK hP 5 0 rfl rfl g_62 dX8_findAtom_21 ?_
    refine lv_istore_n (lv' := [(3, .int (((aM 10) v1.toNatClampNeg))), (2, .int s0), (0, .ref (ad 0)), (1, .int v1)]) hx hb dX8_findAtom_22 rfl hl (by decide) rfl (fun ls hl => ?_)
    refine lv_iload_n hx hb dX8_findAtom_23 rfl (lv_at hl 1 rfl) ?_
    refine lv_if_eq (tgt := 46) hx hb dX8_findAtom_24 (by decide) (fun cz => ?_) (fun cz => ?_)
    · have h := g_t h cz
      exact B46 v1 s0 (((aM 10) v1.toNatClampNeg)) H locs ls h hP hD hS (lv_sub hl [2, 3, 1, 0] rfl)
    · have h := g_f h cz
      refine lv_aload_n hx hb dX8_findAtom_27 rfl (lv_at hl 2 rfl) ?_
      refine va_get (D := (dC, dI)) (ci := 8) (v := .ref (ad 3)) (C := RX8) (T := TX8) (N := 78) hx hb hts ki8 hown hK hP 0 rfl rfl 8 (by decide) kf17 (fun _ h9 => h9) rfl dX8_findAtom_28 ?_
      refine lv_iload_n hx hb dX8_findAtom_31 rfl (lv_at hl 0 rfl) ?_
      obtain ⟨g_75, h⟩ := g_n h
      refine va_iald (f := (aM 8)) hx hb hK hP 3 0 rfl rfl g_75 dX8_findAtom_32 ?_
      refine lv_iconst (v := 3) hx hb dX8_findAtom_33 (by decide) ?_
      refine lv_icmp_ne (tgt := 46) hx hb dX8_findAtom_34 (by decide) (fun cz => ?_) (fun cz => ?_)
      · have h := g_f h cz
        exact B46 v1 s0 (((aM 10) v1.toNatClampNeg)) H locs ls h hP hD hS (lv_sub hl [2, 3, 1, 0] rfl)
      · have h := g_t h cz
        refine lv_iconst (v := 0) hx hb dX8_findAtom_37 (by decide) ?_
        refine lv_istore_n (lv' := [(2, .int ((0 : Int32))), (3, .int (((aM 10) v1.toNatClampNeg))), (0, .ref (ad 0)), (1, .int v1)]) hx hb dX8_findAtom_38 rfl hl (by decide) rfl (fun ls hl => ?_)
        refine lv_aload_n hx hb dX8_findAtom_39 rfl (lv_at hl 2 rfl) ?_
        refine va_get (D := (dC, dI)) (ci := 8) (v := .ref (ad 5)) (C := RX8) (T := TX8) (N := 78) hx hb hts ki8 hown hK hP 0 rfl rfl 10 (by decide) kf24 (fun _ h9 => h9) rfl dX8_findAtom_40 ?_
        refine lv_iload_n hx hb dX8_findAtom_43 rfl (lv_at hl 1 rfl) ?_
        refine va_iald (f := (aM 10)) hx hb hK hP 5 0 rfl rfl g_75 dX8_findAtom_44 ?_
        refine lv_istore_n (lv' := [(3, .int (((aM 10) (((aM 10) v1.toNatClampNeg)).toNatClampNeg))), (2, .int ((0 : Int32))), (0, .ref (ad 0)), (1, .int v1)]) hx hb dX8_findAtom_45 rfl hl (by decide) rfl (fun ls hl => ?_)
        exact B46 v1 ((0 : Int32)) (((aM 10) (((aM 10) v1.toNatClampNeg)).toNatClampNeg)) H locs ls h hP hD hS (lv_sub hl [2, 3, 1, 0] rfl)
  intro H locs hP hD hS
  unfold f_M_findAtom at h
  refine lv_aload_n hx hb dX8_findAtom_0 rfl (lv_at hl 0 rfl) ?_
  refine va_get (D := (dC, dI)) (ci := 8) (v := .ref (ad 3)) (C := RX8) (T := TX8) (N := 78) hx hb hts ki8 hown hK hP 0 rfl rfl 8 (by decide) kf17 (fun _ h9 => h9) rfl dX8_findAtom_1 ?_
  refine lv_iload_n hx hb dX8_findAtom_4 rfl (lv_at hl 1 rfl) ?_
  obtain ⟨g_60, h⟩ := g_n h
  refine va_iald (f := (aM 8)) hx hb hK hP 3 0 rfl rfl g_60 dX8_findAtom_5 ?_
  refine lv_iconst (v := 5) hx hb dX8_findAtom_6 (by decide) ?_
  refine lv_icmp_ne (tgt := 14) hx hb dX8_findAtom_7 (by decide) (fun cz => ?_) (fun cz => ?_)
  · have h := g_f h cz
    refine lv_iconst (v := 0) hx hb dX8_findAtom_14 (by decide) ?_
    exact B15 a1 ((0 : Int32)) H locs ls h hP hD hS (lv_sub hl [0, 1] rfl)
  · have h := g_t h cz
    refine lv_iconst (v := 1) hx hb dX8_findAtom_10 (by decide) ?_
    refine lv_goto (tgt := 15) hx hb dX8_findAtom_11 (by decide) ?_
    exact B15 a1 ((1 : Int32)) H locs ls h hP hD hS (lv_sub hl [0, 1] rfl)
