theorem rg_L_cell_0 {d : Nat} {P : Nat → mj_L → List mj_V → mj_M → Prop} {R : Option mj_V → mj_M → Prop} (hP : mj_Cl mj_c62 (mj_Sp d) (0 < d) P R) {x1 : Int32} {M : mj_M} (h :
  ((nI (mj_len M (41, 82, 0))) ≤ x1 →
  R (some (mj_i ((((nI 15485957) * x1) + (nI 107)) &&& (nI 2147483647)))) M) ∧
  (¬ (nI (mj_len M (41, 82, 0))) ≤ x1 →
  vp_in x1 (mj_len M (41, 82, 0)) ∧ R (some (mj_i ((M 41 82 0 x1.toNatClampNeg) &&& (nI 2147483647)))) M)) : P 0 [some (mj_r (41, 82, 0)), some (mj_i x1)] [] M :=
  hP 0 _ _ _ ⟨rfl, ⟨fun c1 => hP 12 _ _ _ (hP 19 _ _ _ (h.1 c1)), fun c1 => ⟨(h.2 c1).1, hP 19 _ _ _ ((h.2 c1).2)⟩⟩⟩
theorem rg_L_clouds_0 {d : Nat} {P : Nat → mj_L → List mj_V → mj_M → Prop} {R : Option mj_V → mj_M → Prop} (hP : mj_Cl mj_c63 (mj_Sp d) (0 < d) P R)  {M : mj_M} (h :
  ∃ (y_2 : Int32) (M_1 : mj_M), mj_Sp d 62 [mj_r (41, 82, 0), mj_i (nI 0)] M (some (mj_i y_2)) M_1 ∧
  ¬ (nI 7) = 0 ∧ R (some (mj_i (y_2 % (nI 7)))) M_1) : P 0 [some (mj_r (41, 82, 0))] [] M :=
  hP 0 _ _ _ ⟨rfl, Exists.elim h fun e1 g1 => Exists.elim g1 fun a1 b1 => ⟨e1, a1, b1.1, hP 5 _ _ _ ⟨b1.2.1, b1.2.2⟩⟩⟩
theorem rg_L_villages_0 {d : Nat} {P : Nat → mj_L → List mj_V → mj_M → Prop} {R : Option mj_V → mj_M → Prop} (hP : mj_Cl mj_c64 (mj_Sp d) (0 < d) P R)  {M : mj_M} (h :
  ∃ (y_2 : Int32) (M_1 : mj_M), mj_Sp d 62 [mj_r (41, 82, 0), mj_i (nI 0)] M (some (mj_i y_2)) M_1 ∧
  ¬ (nI 5) = 0 ∧ R (some (mj_i ((y_2 >>> ((nI 3) &&& 31)) % (nI 5)))) M_1) : P 0 [some (mj_r (41, 82, 0))] [] M :=
  hP 0 _ _ _ ⟨rfl, Exists.elim h fun e1 g1 => Exists.elim g1 fun a1 b1 => ⟨e1, a1, b1.1, hP 5 _ _ _ ⟨b1.2.1, b1.2.2⟩⟩⟩
theorem rg_L_winds_0 {d : Nat} {P : Nat → mj_L → List mj_V → mj_M → Prop} {R : Option mj_V → mj_M → Prop} (hP : mj_Cl mj_c65 (mj_Sp d) (0 < d) P R)  {M : mj_M} (h :
  ∃ (y_2 : Int32) (M_1 : mj_M), mj_Sp d 62 [mj_r (41, 82, 0), mj_i (nI 0)] M (some (mj_i y_2)) M_1 ∧
  ¬ (nI 6) = 0 ∧ R (some (mj_i ((y_2 >>> ((nI 6) &&& 31)) % (nI 6)))) M_1) : P 0 [some (mj_r (41, 82, 0))] [] M :=
  hP 0 _ _ _ ⟨rfl, Exists.elim h fun e1 g1 => Exists.elim g1 fun a1 b1 => ⟨e1, a1, b1.1, hP 5 _ _ _ ⟨b1.2.1, b1.2.2⟩⟩⟩
theorem rg_L_wind_0 {d : Nat} {P : Nat → mj_L → List mj_V → mj_M → Prop} {R : Option mj_V → mj_M → Prop} (hP : mj_Cl mj_c66 (mj_Sp d) (0 < d) P R) {x1 : Int32} {M : mj_M} (h :
  ∃ (y_2 : Int32) (M_1 : mj_M), mj_Sp d 62 [mj_r (41, 82, 0), mj_i (nI 1)] M (some (mj_i y_2)) M_1 ∧
  ¬ (nI 16) = 0 ∧ R (some (mj_i ((y_2 >>> (((nI 4) * x1) &&& 31)) % (nI 16)))) M_1) : P 0 [some (mj_r (41, 82, 0)), some (mj_i x1)] [] M :=
  hP 0 _ _ _ ⟨rfl, Exists.elim h fun e1 g1 => Exists.elim g1 fun a1 b1 => ⟨e1, a1, b1.1, hP 5 _ _ _ ⟨b1.2.1, b1.2.2⟩⟩⟩
theorem rg_L_thirst_0 {d : Nat} {P : Nat → mj_L → List mj_V → mj_M → Prop} {R : Option mj_V → mj_M → Prop} (hP : mj_Cl mj_c67 (mj_Sp d) (0 < d) P R) {x1 : Int32} {M : mj_M} (h :
  ∃ (y_2 : Int32) (M_1 : mj_M), mj_Sp d 62 [mj_r (41, 82, 0), mj_i (nI 2)] M (some (mj_i y_2)) M_1 ∧
  ∃ (y_4 : Int32) (M_3 : mj_M), mj_Sp d 62 [mj_r (41, 82, 0), mj_i (nI 0)] M_1 (some (mj_i y_4)) M_3 ∧
  ((y_4 &&& (nI 512)) ≤ 0 →
  ¬ (nI 100) = 0 ∧ R (some (mj_i ((y_2 >>> (((nI 5) * x1) &&& 31)) % (nI 100)))) M_3) ∧
  (¬ (y_4 &&& (nI 512)) ≤ 0 →
  ¬ (nI 12) = 0 ∧ R (some (mj_i ((y_2 >>> (((nI 5) * x1) &&& 31)) % (nI 12)))) M_3)) : P 0 [some (mj_r (41, 82, 0)), some (mj_i x1)] [] M :=
  hP 0 _ _ _ ⟨rfl, Exists.elim h fun e1 g1 => Exists.elim g1 fun a1 b1 => ⟨e1, a1, b1.1, hP 5 _ _ _ ⟨rfl, Exists.elim b1.2 fun e2 g2 => Exists.elim g2 fun a2 b2 => ⟨e2, a2, b2.1, hP 14 _ _ _ ⟨fun c3 => hP 26 _ _ _ (hP 28 _ _ _ ⟨(b2.2.1 c3).1, (b2.2.1 c3).2⟩), fun c3 => hP 28 _ _ _ ⟨(b2.2.2 c3).1, (b2.2.2 c3).2⟩⟩⟩⟩⟩⟩
theorem rg_L_lays_0 {d : Nat} {P : Nat → mj_L → List mj_V → mj_M → Prop} {R : Option mj_V → mj_M → Prop} (hP : mj_Cl mj_c68 (mj_Sp d) (0 < d) P R)  {M : mj_M} (h :
  P 5 [some (mj_r (13, 50, 0)), some (mj_r (41, 82, 0)), some (mj_r (17, 73, 0)), some (mj_i (nI 1)), some (mj_i (nI 0)), none, none, none, none] [] M) : P 0 [some (mj_r (13, 50, 0)), some (mj_r (41, 82, 0)), some (mj_r (17, 73, 0)), none, none, none, none, none, none] [] M :=
  hP 0 _ _ _ ⟨rfl, ⟨rfl, h⟩⟩
theorem rg_L_lays_5 {d : Nat} {P : Nat → mj_L → List mj_V → mj_M → Prop} {R : Option mj_V → mj_M → Prop} (hP : mj_Cl mj_c68 (mj_Sp d) (0 < d) P R) {x3 : Int32} {x4 : Int32} {o5 : Option mj_V} {M : mj_M} (h :
  ∃ (y_2 : Int32) (M_1 : mj_M), mj_Sp d 65 [mj_r (41, 82, 0)] M (some (mj_i y_2)) M_1 ∧
  (y_2 ≤ x4 →
  P 123 [some (mj_r (13, 50, 0)), some (mj_r (41, 82, 0)), some (mj_r (17, 73, 0)), some (mj_i x3), some (mj_i x4), o5, none, none, none] [] M_1) ∧
  (¬ y_2 ≤ x4 →
  (x3 = 0 →
    P 123 [some (mj_r (13, 50, 0)), some (mj_r (41, 82, 0)), some (mj_r (17, 73, 0)), some (mj_i x3), some (mj_i x4), o5, none, none, none] [] M_1) ∧
    (¬ x3 = 0 →
    ∃ (y_4 : Int32) (M_3 : mj_M), mj_Sp d 66 [mj_r (41, 82, 0), mj_i x4] M_1 (some (mj_i y_4)) M_3 ∧
      ¬ (nI 4) = 0 ∧ ∀ x5_5 : Int32, x5_5 = y_4 % (nI 4) → (x4 = 0 →
      P 44 [some (mj_r (13, 50, 0)), some (mj_r (41, 82, 0)), some (mj_r (17, 73, 0)), some (mj_i x3), some (mj_i x4), some (mj_i x5_5), none, none, none] [] M_3) ∧
      (¬ x4 = 0 →
      ∃ (y_7 : Int32) (M_6 : mj_M), mj_Sp d 10 [mj_r (13, 50, 0), mj_l (lN 44), mj_i (nI 1)] M_3 (some (mj_i y_7)) M_6 ∧
        (y_7 ≤ 0 →
        P 115 [some (mj_r (13, 50, 0)), some (mj_r (41, 82, 0)), some (mj_r (17, 73, 0)), some (mj_i x3), some (mj_i x4), some (mj_i x5_5), none, none, none] [] M_6) ∧
        (¬ y_7 ≤ 0 →
        P 44 [some (mj_r (13, 50, 0)), some (mj_r (41, 82, 0)), some (mj_r (17, 73, 0)), some (mj_i x3), some (mj_i x4), some (mj_i x5_5), none, none, none] [] M_6))))) : P 5 [some (mj_r (13, 50, 0)), some (mj_r (41, 82, 0)), some (mj_r (17, 73, 0)), some (mj_i x3), some (mj_i x4), o5, none, none, none] [] M :=
  hP 5 _ _ _ ⟨rfl, Exists.elim h fun e1 g1 => Exists.elim g1 fun a1 b1 => ⟨e1, a1, b1.1, hP 11 _ _ _ ⟨fun c2 => (b1.2.1 c2), fun c2 => ⟨fun c3 => ((b1.2.2 c2).1 c3), fun c3 => ⟨rfl, Exists.elim ((b1.2.2 c2).2 c3) fun e4 g4 => Exists.elim g4 fun a4 b4 => ⟨e4, a4, b4.1, hP 24 _ _ _ ⟨b4.2.1, ⟨rfl, ⟨fun c5 => ((b4.2.2 _ rfl).1 c5), fun c5 => ⟨rfl, Exists.elim ((b4.2.2 _ rfl).2 c5) fun e6 g6 => Exists.elim g6 fun a6 b6 => ⟨e6, a6, b6.1, hP 41 _ _ _ ⟨fun c7 => (b6.2.1 c7), fun c7 => (b6.2.2 c7)⟩⟩⟩⟩⟩⟩⟩⟩⟩⟩⟩⟩
theorem rg_L_lays_44 {d : Nat} {P : Nat → mj_L → List mj_V → mj_M → Prop} {R : Option mj_V → mj_M → Prop} (hP : mj_Cl mj_c68 (mj_Sp d) (0 < d) P R) {x3 : Int32} {x4 : Int32} {x5 : Int32} {M : mj_M} (h :
  (¬ x5 = 0 →
  (¬ x5 = (nI 1) →
    (¬ x5 = (nI 2) →
      P 83 [some (mj_r (13, 50, 0)), some (mj_r (41, 82, 0)), some (mj_r (17, 73, 0)), some (mj_i x3), some (mj_i x4), some (mj_i x5), none, none, none] [mj_l (lN 100), mj_r (13, 50, 0)] M) ∧
      (¬ ¬ x5 = (nI 2) →
      P 83 [some (mj_r (13, 50, 0)), some (mj_r (41, 82, 0)), some (mj_r (17, 73, 0)), some (mj_i x3), some (mj_i x4), some (mj_i x5), none, none, none] [mj_l (lN 114), mj_r (13, 50, 0)] M)) ∧
    (¬ ¬ x5 = (nI 1) →
    P 83 [some (mj_r (13, 50, 0)), some (mj_r (41, 82, 0)), some (mj_r (17, 73, 0)), some (mj_i x3), some (mj_i x4), some (mj_i x5), none, none, none] [mj_l (lN 108), mj_r (13, 50, 0)] M)) ∧
  (¬ ¬ x5 = 0 →
  P 83 [some (mj_r (13, 50, 0)), some (mj_r (41, 82, 0)), some (mj_r (17, 73, 0)), some (mj_i x3), some (mj_i x4), some (mj_i x5), none, none, none] [mj_l (lN 117), mj_r (13, 50, 0)] M)) : P 44 [some (mj_r (13, 50, 0)), some (mj_r (41, 82, 0)), some (mj_r (17, 73, 0)), some (mj_i x3), some (mj_i x4), some (mj_i x5), none, none, none] [] M :=
  hP 44 _ _ _ ⟨fun c1 => hP 56 _ _ _ ⟨fun c2 => hP 68 _ _ _ ⟨fun c3 => hP 80 _ _ _ (((h.1 c1).1 c2).1 c3), fun c3 => (((h.1 c1).1 c2).2 c3)⟩, fun c2 => ((h.1 c1).2 c2)⟩, fun c1 => (h.2 c1)⟩
theorem rg_L_lays_83 {d : Nat} {P : Nat → mj_L → List mj_V → mj_M → Prop} {R : Option mj_V → mj_M → Prop} (hP : mj_Cl mj_c68 (mj_Sp d) (0 < d) P R) {x3 : Int32} {x4 : Int32} {x5 : Int32} {ws0 : Int64} {M : mj_M} (h :
  ∃ (y_2 : Int32) (M_1 : mj_M), mj_Sp d 10 [mj_r (13, 50, 0), mj_l ws0, mj_i (nI 1)] M (some (mj_i y_2)) M_1 ∧
  (y_2 ≤ 0 →
  P 115 [some (mj_r (13, 50, 0)), some (mj_r (41, 82, 0)), some (mj_r (17, 73, 0)), some (mj_i x3), some (mj_i x4), some (mj_i x5), none, none, none] [] M_1) ∧
  (¬ y_2 ≤ 0 →
  ∃ (y_4 : Int32) (M_3 : mj_M), mj_Sp d 66 [mj_r (41, 82, 0), mj_i x4] M_1 (some (mj_i y_4)) M_3 ∧
    ¬ (nI 4) = 0 ∧ ∃ (y_6 : Int32) (M_5 : mj_M), mj_Sp d 10 [mj_r (13, 50, 0), mj_l ((lN 48) + ((y_4 / (nI 4)).toInt64)), mj_i (nI 1)] M_3 (some (mj_i y_6)) M_5 ∧
    (y_6 ≤ 0 →
    P 115 [some (mj_r (13, 50, 0)), some (mj_r (41, 82, 0)), some (mj_r (17, 73, 0)), some (mj_i x3), some (mj_i x4), some (mj_i x5), none, none, none] [] M_5) ∧
    (¬ y_6 ≤ 0 →
    P 116 [some (mj_r (13, 50, 0)), some (mj_r (41, 82, 0)), some (mj_r (17, 73, 0)), some (mj_i x3), some (mj_i x4), some (mj_i x5), none, none, none] [mj_i (nI 1)] M_5))) : P 83 [some (mj_r (13, 50, 0)), some (mj_r (41, 82, 0)), some (mj_r (17, 73, 0)), some (mj_i x3), some (mj_i x4), some (mj_i x5), none, none, none] [mj_l ws0, mj_r (13, 50, 0)] M :=
  hP 83 _ _ _ ⟨rfl, Exists.elim h fun e1 g1 => Exists.elim g1 fun a1 b1 => ⟨e1, a1, b1.1, hP 87 _ _ _ ⟨fun c2 => (b1.2.1 c2), fun c2 => ⟨rfl, Exists.elim (b1.2.2 c2) fun e3 g3 => Exists.elim g3 fun a3 b3 => ⟨e3, a3, b3.1, hP 100 _ _ _ ⟨b3.2.1, ⟨rfl, Exists.elim b3.2.2 fun e4 g4 => Exists.elim g4 fun a4 b4 => ⟨e4, a4, b4.1, hP 108 _ _ _ ⟨fun c5 => (b4.2.1 c5), fun c5 => (b4.2.2 c5)⟩⟩⟩⟩⟩⟩⟩⟩⟩
theorem rg_L_lays_115 {d : Nat} {P : Nat → mj_L → List mj_V → mj_M → Prop} {R : Option mj_V → mj_M → Prop} (hP : mj_Cl mj_c68 (mj_Sp d) (0 < d) P R) {x3 : Int32} {x4 : Int32} {x5 : Int32} {M : mj_M} (h :
  P 116 [some (mj_r (13, 50, 0)), some (mj_r (41, 82, 0)), some (mj_r (17, 73, 0)), some (mj_i x3), some (mj_i x4), some (mj_i x5), none, none, none] [mj_i (nI 0)] M) : P 115 [some (mj_r (13, 50, 0)), some (mj_r (41, 82, 0)), some (mj_r (17, 73, 0)), some (mj_i x3), some (mj_i x4), some (mj_i x5), none, none, none] [] M :=
  hP 115 _ _ _ h
theorem rg_L_lays_116 {d : Nat} {P : Nat → mj_L → List mj_V → mj_M → Prop} {R : Option mj_V → mj_M → Prop} (hP : mj_Cl mj_c68 (mj_Sp d) (0 < d) P R) {x3 : Int32} {x4 : Int32} {x5 : Int32} {xs0 : Int32} {M : mj_M} (h :
  ∀ x4_1 : Int32, x4_1 = x4 + (nI 1) → P 5 [some (mj_r (13, 50, 0)), some (mj_r (41, 82, 0)), some (mj_r (17, 73, 0)), some (mj_i xs0), some (mj_i x4_1), some (mj_i x5), none, none, none] [] M) : P 116 [some (mj_r (13, 50, 0)), some (mj_r (41, 82, 0)), some (mj_r (17, 73, 0)), some (mj_i x3), some (mj_i x4), some (mj_i x5), none, none, none] [mj_i xs0] M :=
  hP 116 _ _ _ ⟨rfl, ⟨rfl, (h _ rfl)⟩⟩
theorem rg_L_lays_123 {d : Nat} {P : Nat → mj_L → List mj_V → mj_M → Prop} {R : Option mj_V → mj_M → Prop} (hP : mj_Cl mj_c68 (mj_Sp d) (0 < d) P R) {x3 : Int32} {x4 : Int32} {o5 : Option mj_V} {M : mj_M} (h :
  (x3 = 0 →
  P 149 [some (mj_r (13, 50, 0)), some (mj_r (41, 82, 0)), some (mj_r (17, 73, 0)), some (mj_i x3), some (mj_i x4), o5, none, none, none] [] M) ∧
  (¬ x3 = 0 →
  ∃ (y_2 : Int32) (M_1 : mj_M), mj_Sp d 65 [mj_r (41, 82, 0)] M (some (mj_i y_2)) M_1 ∧
    (y_2 = 0 →
    P 145 [some (mj_r (13, 50, 0)), some (mj_r (41, 82, 0)), some (mj_r (17, 73, 0)), some (mj_i x3), some (mj_i x4), o5, none, none, none] [] M_1) ∧
    (¬ y_2 = 0 →
    ∃ (y_4 : Int32) (M_3 : mj_M), mj_Sp d 11 [mj_r (13, 50, 0)] M_1 (some (mj_i y_4)) M_3 ∧
      ∃ (y_6 : Int32) (M_5 : mj_M), mj_Sp d 65 [mj_r (41, 82, 0)] M_3 (some (mj_i y_6)) M_5 ∧
      (¬ y_4 = y_6 →
      P 149 [some (mj_r (13, 50, 0)), some (mj_r (41, 82, 0)), some (mj_r (17, 73, 0)), some (mj_i x3), some (mj_i x4), o5, none, none, none] [] M_5) ∧
      (¬ ¬ y_4 = y_6 →
      P 145 [some (mj_r (13, 50, 0)), some (mj_r (41, 82, 0)), some (mj_r (17, 73, 0)), some (mj_i x3), some (mj_i x4), o5, none, none, none] [] M_5)))) : P 123 [some (mj_r (13, 50, 0)), some (mj_r (41, 82, 0)), some (mj_r (17, 73, 0)), some (mj_i x3), some (mj_i x4), o5, none, none, none] [] M :=
  hP 123 _ _ _ ⟨fun c1 => (h.1 c1), fun c1 => ⟨rfl, Exists.elim (h.2 c1) fun e2 g2 => Exists.elim g2 fun a2 b2 => ⟨e2, a2, b2.1, hP 131 _ _ _ ⟨fun c3 => (b2.2.1 c3), fun c3 => ⟨rfl, Exists.elim (b2.2.2 c3) fun e4 g4 => Exists.elim g4 fun a4 b4 => ⟨e4, a4, b4.1, hP 138 _ _ _ ⟨rfl, Exists.elim b4.2 fun e5 g5 => Exists.elim g5 fun a5 b5 => ⟨e5, a5, b5.1, hP 142 _ _ _ ⟨fun c6 => (b5.2.1 c6), fun c6 => (b5.2.2 c6)⟩⟩⟩⟩⟩⟩⟩⟩⟩
theorem rg_L_lays_145 {d : Nat} {P : Nat → mj_L → List mj_V → mj_M → Prop} {R : Option mj_V → mj_M → Prop} (hP : mj_Cl mj_c68 (mj_Sp d) (0 < d) P R) {x3 : Int32} {x4 : Int32} {o5 : Option mj_V} {M : mj_M} (h :
  P 150 [some (mj_r (13, 50, 0)), some (mj_r (41, 82, 0)), some (mj_r (17, 73, 0)), some (mj_i x3), some (mj_i x4), o5, none, none, none] [mj_i (nI 1)] M) : P 145 [some (mj_r (13, 50, 0)), some (mj_r (41, 82, 0)), some (mj_r (17, 73, 0)), some (mj_i x3), some (mj_i x4), o5, none, none, none] [] M :=
  hP 145 _ _ _ h
theorem rg_L_lays_149 {d : Nat} {P : Nat → mj_L → List mj_V → mj_M → Prop} {R : Option mj_V → mj_M → Prop} (hP : mj_Cl mj_c68 (mj_Sp d) (0 < d) P R) {x3 : Int32} {x4 : Int32} {o5 : Option mj_V} {M : mj_M} (h :
  P 150 [some (mj_r (13, 50, 0)), some (mj_r (41, 82, 0)), some (mj_r (17, 73, 0)), some (mj_i x3), some (mj_i x4), o5, none, none, none] [mj_i (nI 0)] M) : P 149 [some (mj_r (13, 50, 0)), some (mj_r (41, 82, 0)), some (mj_r (17, 73, 0)), some (mj_i x3), some (mj_i x4), o5, none, none, none] [] M :=
  hP 149 _ _ _ h
theorem rg_L_lays_150 {d : Nat} {P : Nat → mj_L → List mj_V → mj_M → Prop} {R : Option mj_V → mj_M → Prop} (hP : mj_Cl mj_c68 (mj_Sp d) (0 < d) P R) {x3 : Int32} {x4 : Int32} {o5 : Option mj_V} {xs0 : Int32} {M : mj_M} (h :
  P 154 [some (mj_r (13, 50, 0)), some (mj_r (41, 82, 0)), some (mj_r (17, 73, 0)), some (mj_i xs0), some (mj_i (nI 0)), o5, none, none, none] [] M) : P 150 [some (mj_r (13, 50, 0)), some (mj_r (41, 82, 0)), some (mj_r (17, 73, 0)), some (mj_i x3), some (mj_i x4), o5, none, none, none] [mj_i xs0] M :=
  hP 150 _ _ _ ⟨rfl, ⟨rfl, h⟩⟩
theorem rg_L_lays_154 {d : Nat} {P : Nat → mj_L → List mj_V → mj_M → Prop} {R : Option mj_V → mj_M → Prop} (hP : mj_Cl mj_c68 (mj_Sp d) (0 < d) P R) {x3 : Int32} {x4 : Int32} {o5 : Option mj_V} {M : mj_M} (h :
  ∃ (y_2 : Int32) (M_1 : mj_M), mj_Sp d 63 [mj_r (41, 82, 0)] M (some (mj_i y_2)) M_1 ∧
  (y_2 ≤ x4 →
  P 278 [some (mj_r (13, 50, 0)), some (mj_r (41, 82, 0)), some (mj_r (17, 73, 0)), some (mj_i x3), some (mj_i x4), o5, none, none, none] [] M_1) ∧
  (¬ y_2 ≤ x4 →
  (x3 = 0 →
    P 278 [some (mj_r (13, 50, 0)), some (mj_r (41, 82, 0)), some (mj_r (17, 73, 0)), some (mj_i x3), some (mj_i x4), o5, none, none, none] [] M_1) ∧
    (¬ x3 = 0 →
    ¬ (nI 3) = 0 ∧ ∃ (y_4 : Int32) (M_3 : mj_M), mj_Sp d 62 [mj_r (41, 82, 0), mj_i ((nI 3) + (x4 % (nI 3)))] M_1 (some (mj_i y_4)) M_3 ∧
      ¬ (nI 3) = 0 ∧ ∀ x5_5 : Int32, x5_5 = y_4 >>> (((nI 13) * (x4 / (nI 3))) &&& 31) → ¬ (nI 25) = 0 ∧ vp_in x4 55 ∧ ∀ M_6 : mj_M, M_6 = mj_wl M_3 (17, 73, 0, x4.toNatClampNeg) (x5_5 % (nI 25)) → (¬ (x5_5 &&& (nI 1)) = 0 →
      P 222 [some (mj_r (13, 50, 0)), some (mj_r (41, 82, 0)), some (mj_r (17, 73, 0)), some (mj_i x3), some (mj_i x4), some (mj_i x5_5), none, none, none] [mj_i (nI 200), mj_i (x5_5 >>> ((nI 5) &&& 31)), mj_i (nI 1), mj_i ((nI 6) + x4), mj_r (17, 73, 0)] M_6) ∧
      (¬ ¬ (x5_5 &&& (nI 1)) = 0 →
      P 222 [some (mj_r (13, 50, 0)), some (mj_r (41, 82, 0)), some (mj_r (17, 73, 0)), some (mj_i x3), some (mj_i x4), some (mj_i x5_5), none, none, none] [mj_i (nI 30), mj_i (x5_5 >>> ((nI 5) &&& 31)), mj_i (nI 1), mj_i ((nI 6) + x4), mj_r (17, 73, 0)] M_6)))) : P 154 [some (mj_r (13, 50, 0)), some (mj_r (41, 82, 0)), some (mj_r (17, 73, 0)), some (mj_i x3), some (mj_i x4), o5, none, none, none] [] M :=
  hP 154 _ _ _ ⟨rfl, Exists.elim h fun e1 g1 => Exists.elim g1 fun a1 b1 => ⟨e1, a1, b1.1, hP 160 _ _ _ ⟨fun c2 => (b1.2.1 c2), fun c2 => ⟨fun c3 => ((b1.2.2 c2).1 c3), fun c3 => ⟨((b1.2.2 c2).2 c3).1, ⟨rfl, Exists.elim (((b1.2.2 c2).2 c3).2) fun e4 g4 => Exists.elim g4 fun a4 b4 => ⟨e4, a4, b4.1, hP 177 _ _ _ ⟨b4.2.1, ⟨rfl, ⟨(b4.2.2 _ rfl).1, ⟨rfl, ⟨(b4.2.2 _ rfl).2.1, ⟨fun c5 => hP 219 _ _ _ (((b4.2.2 _ rfl).2.2 _ rfl).1 c5), fun c5 => (((b4.2.2 _ rfl).2.2 _ rfl).2 c5)⟩⟩⟩⟩⟩⟩⟩⟩⟩⟩⟩⟩⟩
theorem rg_L_lays_222 {d : Nat} {P : Nat → mj_L → List mj_V → mj_M → Prop} {R : Option mj_V → mj_M → Prop} (hP : mj_Cl mj_c68 (mj_Sp d) (0 < d) P R) {x3 : Int32} {x4 : Int32} {x5 : Int32} {xs0 : Int32} {xs1 : Int32} {xs2 : Int32} {xs3 : Int32} {M : mj_M} (h :
  ¬ xs0 = 0 ∧ vp_in xs3 55 ∧ ∀ M_1 : mj_M, M_1 = mj_wl M (17, 73, 0, xs3.toNatClampNeg) (xs2 + (xs1 % xs0)) → ¬ (nI 4) = 0 ∧ vp_in ((nI 12) + x4) 55 ∧ ∀ M_2 : mj_M, M_2 = mj_wl M_1 (17, 73, 0, ((nI 12) + x4).toNatClampNeg) ((x5 >>> ((nI 10) &&& 31)) % (nI 4)) → vp_in ((nI 12) + x4) 55 ∧ vp_in x4 55 ∧ vp_in ((nI 6) + x4) 55 ∧ ∃ (y_4 : Int32) (M_3 : mj_M), mj_Sp d 0 [mj_r (13, 50, 0), mj_i (M_2 17 73 0 ((nI 12) + x4).toNatClampNeg), mj_i (M_2 17 73 0 x4.toNatClampNeg), mj_i (M_2 17 73 0 ((nI 6) + x4).toNatClampNeg)] M_2 (some (mj_i y_4)) M_3 ∧
  (¬ y_4 = x4 →
  P 271 [some (mj_r (13, 50, 0)), some (mj_r (41, 82, 0)), some (mj_r (17, 73, 0)), some (mj_i x3), some (mj_i x4), some (mj_i x5), none, none, none] [mj_i (nI 0)] M_3) ∧
  (¬ ¬ y_4 = x4 →
  P 271 [some (mj_r (13, 50, 0)), some (mj_r (41, 82, 0)), some (mj_r (17, 73, 0)), some (mj_i x3), some (mj_i x4), some (mj_i x5), none, none, none] [mj_i (nI 1)] M_3)) : P 222 [some (mj_r (13, 50, 0)), some (mj_r (41, 82, 0)), some (mj_r (17, 73, 0)), some (mj_i x3), some (mj_i x4), some (mj_i x5), none, none, none] [mj_i xs0, mj_i xs1, mj_i xs2, mj_i xs3, mj_r (17, 73, 0)] M :=
  hP 222 _ _ _ ⟨h.1, ⟨rfl, ⟨h.2.1, ⟨(h.2.2 _ rfl).1, ⟨rfl, ⟨(h.2.2 _ rfl).2.1, ⟨((h.2.2 _ rfl).2.2 _ rfl).1, ⟨((h.2.2 _ rfl).2.2 _ rfl).2.1, ⟨((h.2.2 _ rfl).2.2 _ rfl).2.2.1, ⟨rfl, Exists.elim (((h.2.2 _ rfl).2.2 _ rfl).2.2.2) fun e1 g1 => Exists.elim g1 fun a1 b1 => ⟨e1, a1, b1.1, hP 261 _ _ _ ⟨fun c2 => hP 270 _ _ _ (b1.2.1 c2), fun c2 => (b1.2.2 c2)⟩⟩⟩⟩⟩⟩⟩⟩⟩⟩⟩⟩
theorem rg_L_lays_271 {d : Nat} {P : Nat → mj_L → List mj_V → mj_M → Prop} {R : Option mj_V → mj_M → Prop} (hP : mj_Cl mj_c68 (mj_Sp d) (0 < d) P R) {x3 : Int32} {x4 : Int32} {x5 : Int32} {xs0 : Int32} {M : mj_M} (h :
  ∀ x4_1 : Int32, x4_1 = x4 + (nI 1) → P 154 [some (mj_r (13, 50, 0)), some (mj_r (41, 82, 0)), some (mj_r (17, 73, 0)), some (mj_i xs0), some (mj_i x4_1), some (mj_i x5), none, none, none] [] M) : P 271 [some (mj_r (13, 50, 0)), some (mj_r (41, 82, 0)), some (mj_r (17, 73, 0)), some (mj_i x3), some (mj_i x4), some (mj_i x5), none, none, none] [mj_i xs0] M :=
  hP 271 _ _ _ ⟨rfl, ⟨rfl, (h _ rfl)⟩⟩
theorem rg_L_lays_278 {d : Nat} {P : Nat → mj_L → List mj_V → mj_M → Prop} {R : Option mj_V → mj_M → Prop} (hP : mj_Cl mj_c68 (mj_Sp d) (0 < d) P R) {x3 : Int32} {x4 : Int32} {o5 : Option mj_V} {M : mj_M} (h :
  P 281 [some (mj_r (13, 50, 0)), some (mj_r (41, 82, 0)), some (mj_r (17, 73, 0)), some (mj_i x3), some (mj_i (nI 0)), o5, none, none, none] [] M) : P 278 [some (mj_r (13, 50, 0)), some (mj_r (41, 82, 0)), some (mj_r (17, 73, 0)), some (mj_i x3), some (mj_i x4), o5, none, none, none] [] M :=
  hP 278 _ _ _ ⟨rfl, h⟩
theorem rg_L_lays_281 {d : Nat} {P : Nat → mj_L → List mj_V → mj_M → Prop} {R : Option mj_V → mj_M → Prop} (hP : mj_Cl mj_c68 (mj_Sp d) (0 < d) P R) {x3 : Int32} {x4 : Int32} {o5 : Option mj_V} {o6 : Option mj_V} {o7 : Option mj_V} {o8 : Option mj_V} {M : mj_M} (h :
  ∃ (y_2 : Int32) (M_1 : mj_M), mj_Sp d 64 [mj_r (41, 82, 0)] M (some (mj_i y_2)) M_1 ∧
  (y_2 ≤ x4 →
  P 546 [some (mj_r (13, 50, 0)), some (mj_r (41, 82, 0)), some (mj_r (17, 73, 0)), some (mj_i x3), some (mj_i x4), o5, o6, o7, o8] [] M_1) ∧
  (¬ y_2 ≤ x4 →
  (x3 = 0 →
    P 546 [some (mj_r (13, 50, 0)), some (mj_r (41, 82, 0)), some (mj_r (17, 73, 0)), some (mj_i x3), some (mj_i x4), o5, o6, o7, o8] [] M_1) ∧
    (¬ x3 = 0 →
    ∃ (y_4 : Int32) (M_3 : mj_M), mj_Sp d 62 [mj_r (41, 82, 0), mj_i (nI 6)] M_1 (some (mj_i y_4)) M_3 ∧
      ¬ (nI 25) = 0 ∧ ∀ x5_5 : Int32, x5_5 = (y_4 >>> (((nI 5) * x4) &&& 31)) % (nI 25) → P 313 [some (mj_r (13, 50, 0)), some (mj_r (41, 82, 0)), some (mj_r (17, 73, 0)), some (mj_i x3), some (mj_i x4), some (mj_i x5_5), some (mj_i (nI 0)), o7, o8] [] M_3))) : P 281 [some (mj_r (13, 50, 0)), some (mj_r (41, 82, 0)), some (mj_r (17, 73, 0)), some (mj_i x3), some (mj_i x4), o5, o6, o7, o8] [] M :=
  hP 281 _ _ _ ⟨rfl, Exists.elim h fun e1 g1 => Exists.elim g1 fun a1 b1 => ⟨e1, a1, b1.1, hP 287 _ _ _ ⟨fun c2 => (b1.2.1 c2), fun c2 => ⟨fun c3 => ((b1.2.2 c2).1 c3), fun c3 => ⟨rfl, Exists.elim ((b1.2.2 c2).2 c3) fun e4 g4 => Exists.elim g4 fun a4 b4 => ⟨e4, a4, b4.1, hP 300 _ _ _ ⟨b4.2.1, ⟨rfl, ⟨rfl, (b4.2.2 _ rfl)⟩⟩⟩⟩⟩⟩⟩⟩⟩
theorem rg_L_lays_313 {d : Nat} {P : Nat → mj_L → List mj_V → mj_M → Prop} {R : Option mj_V → mj_M → Prop} (hP : mj_Cl mj_c68 (mj_Sp d) (0 < d) P R) {x3 : Int32} {x4 : Int32} {x5 : Int32} {x6 : Int32} {o7 : Option mj_V} {o8 : Option mj_V} {M : mj_M} (h :
  ((nI 4) ≤ x6 →
  vp_in ((nI 50) + x4) 55 ∧ ∀ M_1 : mj_M, M_1 = mj_wl M (17, 73, 0, ((nI 50) + x4).toNatClampNeg) x5 → ∃ (y_3 : Int32) (M_2 : mj_M), mj_Sp d 62 [mj_r (41, 82, 0), mj_i (nI 7)] M_1 (some (mj_i y_3)) M_2 ∧
    ¬ (nI 10) = 0 ∧ vp_in ((nI 42) + x4) 55 ∧ ∀ M_4 : mj_M, M_4 = mj_wl M_2 (17, 73, 0, ((nI 42) + x4).toNatClampNeg) ((y_3 >>> (((nI 4) * x4) &&& 31)) % (nI 10)) → vp_in ((nI 42) + x4) 55 ∧ ∃ (y_6 : Int32) (M_5 : mj_M), mj_Sp d 67 [mj_r (41, 82, 0), mj_i x4] M_4 (some (mj_i y_6)) M_5 ∧
    ∃ (y_8 : Int32) (M_7 : mj_M), mj_Sp d 1 [mj_r (13, 50, 0), mj_i x5, mj_i (M_4 17 73 0 ((nI 42) + x4).toNatClampNeg), mj_i y_6] M_5 (some (mj_i y_8)) M_7 ∧
    (¬ y_8 = x4 →
    P 426 [some (mj_r (13, 50, 0)), some (mj_r (41, 82, 0)), some (mj_r (17, 73, 0)), some (mj_i x3), some (mj_i x4), some (mj_i x5), some (mj_i x6), o7, o8] [mj_i (nI 0)] M_7) ∧
    (¬ ¬ y_8 = x4 →
    P 426 [some (mj_r (13, 50, 0)), some (mj_r (41, 82, 0)), some (mj_r (17, 73, 0)), some (mj_i x3), some (mj_i x4), some (mj_i x5), some (mj_i x6), o7, o8] [mj_i (nI 1)] M_7)) ∧
  (¬ (nI 4) ≤ x6 →
  P 322 [some (mj_r (13, 50, 0)), some (mj_r (41, 82, 0)), some (mj_r (17, 73, 0)), some (mj_i x3), some (mj_i x4), some (mj_i x5), some (mj_i x6), some (mj_i (nI 0)), o8] [] M)) : P 313 [some (mj_r (13, 50, 0)), some (mj_r (41, 82, 0)), some (mj_r (17, 73, 0)), some (mj_i x3), some (mj_i x4), some (mj_i x5), some (mj_i x6), o7, o8] [] M :=
  hP 313 _ _ _ ⟨fun c1 => hP 367 _ _ _ ⟨rfl, ⟨(h.1 c1).1, ⟨rfl, Exists.elim ((h.1 c1).2 _ rfl) fun e2 g2 => Exists.elim g2 fun a2 b2 => ⟨e2, a2, b2.1, hP 388 _ _ _ ⟨b2.2.1, ⟨rfl, ⟨b2.2.2.1, ⟨(b2.2.2.2 _ rfl).1, ⟨rfl, Exists.elim ((b2.2.2.2 _ rfl).2) fun e3 g3 => Exists.elim g3 fun a3 b3 => ⟨e3, a3, b3.1, hP 413 _ _ _ ⟨rfl, Exists.elim b3.2 fun e4 g4 => Exists.elim g4 fun a4 b4 => ⟨e4, a4, b4.1, hP 416 _ _ _ ⟨fun c5 => hP 425 _ _ _ (b4.2.1 c5), fun c5 => (b4.2.2 c5)⟩⟩⟩⟩⟩⟩⟩⟩⟩⟩⟩⟩⟩, fun c1 => ⟨rfl, (h.2 c1)⟩⟩
theorem rg_L_lays_322 {d : Nat} {P : Nat → mj_L → List mj_V → mj_M → Prop} {R : Option mj_V → mj_M → Prop} (hP : mj_Cl mj_c68 (mj_Sp d) (0 < d) P R) {x3 : Int32} {x4 : Int32} {x5 : Int32} {x6 : Int32} {x7 : Int32} {o8 : Option mj_V} {M : mj_M} (h :
  (x4 ≤ x7 →
  ∀ x6_1 : Int32, x6_1 = x6 + (nI 1) → P 313 [some (mj_r (13, 50, 0)), some (mj_r (41, 82, 0)), some (mj_r (17, 73, 0)), some (mj_i x3), some (mj_i x4), some (mj_i x5), some (mj_i x6_1), some (mj_i x7), o8] [] M) ∧
  (¬ x4 ≤ x7 →
  vp_in ((nI 50) + x7) 55 ∧ (¬ (M 17 73 0 ((nI 50) + x7).toNatClampNeg) = x5 →
    P 353 [some (mj_r (13, 50, 0)), some (mj_r (41, 82, 0)), some (mj_r (17, 73, 0)), some (mj_i x3), some (mj_i x4), some (mj_i x5), some (mj_i x6), some (mj_i x7), o8] [mj_i x5] M) ∧
    (¬ ¬ (M 17 73 0 ((nI 50) + x7).toNatClampNeg) = x5 →
    ¬ (nI 25) = 0 ∧ P 353 [some (mj_r (13, 50, 0)), some (mj_r (41, 82, 0)), some (mj_r (17, 73, 0)), some (mj_i x3), some (mj_i x4), some (mj_i x5), some (mj_i x6), some (mj_i x7), o8] [mj_i ((x5 + (nI 1)) % (nI 25))] M))) : P 322 [some (mj_r (13, 50, 0)), some (mj_r (41, 82, 0)), some (mj_r (17, 73, 0)), some (mj_i x3), some (mj_i x4), some (mj_i x5), some (mj_i x6), some (mj_i x7), o8] [] M :=
  hP 322 _ _ _ ⟨fun c1 => hP 361 _ _ _ ⟨rfl, ((h.1 c1) _ rfl)⟩, fun c1 => ⟨(h.2 c1).1, ⟨fun c2 => hP 351 _ _ _ ((h.2 c1).2.1 c2), fun c2 => ⟨((h.2 c1).2.2 c2).1, ((h.2 c1).2.2 c2).2⟩⟩⟩⟩
theorem rg_L_lays_353 {d : Nat} {P : Nat → mj_L → List mj_V → mj_M → Prop} {R : Option mj_V → mj_M → Prop} (hP : mj_Cl mj_c68 (mj_Sp d) (0 < d) P R) {x3 : Int32} {x4 : Int32} {x5 : Int32} {x6 : Int32} {x7 : Int32} {o8 : Option mj_V} {xs0 : Int32} {M : mj_M} (h :
  ∀ x7_1 : Int32, x7_1 = x7 + (nI 1) → P 322 [some (mj_r (13, 50, 0)), some (mj_r (41, 82, 0)), some (mj_r (17, 73, 0)), some (mj_i x3), some (mj_i x4), some (mj_i xs0), some (mj_i x6), some (mj_i x7_1), o8] [] M) : P 353 [some (mj_r (13, 50, 0)), some (mj_r (41, 82, 0)), some (mj_r (17, 73, 0)), some (mj_i x3), some (mj_i x4), some (mj_i x5), some (mj_i x6), some (mj_i x7), o8] [mj_i xs0] M :=
  hP 353 _ _ _ ⟨rfl, ⟨rfl, (h _ rfl)⟩⟩
theorem rg_L_lays_426 {d : Nat} {P : Nat → mj_L → List mj_V → mj_M → Prop} {R : Option mj_V → mj_M → Prop} (hP : mj_Cl mj_c68 (mj_Sp d) (0 < d) P R) {x3 : Int32} {x4 : Int32} {x5 : Int32} {x6 : Int32} {o7 : Option mj_V} {o8 : Option mj_V} {xs0 : Int32} {M : mj_M} (h :
  vp_in ((nI 42) + x4) 55 ∧ ∀ x6_1 : Int32, x6_1 = M 17 73 0 ((nI 42) + x4).toNatClampNeg → P 439 [some (mj_r (13, 50, 0)), some (mj_r (41, 82, 0)), some (mj_r (17, 73, 0)), some (mj_i xs0), some (mj_i x4), some (mj_i x5), some (mj_i x6_1), some (mj_i (nI 0)), o8] [] M) : P 426 [some (mj_r (13, 50, 0)), some (mj_r (41, 82, 0)), some (mj_r (17, 73, 0)), some (mj_i x3), some (mj_i x4), some (mj_i x5), some (mj_i x6), o7, o8] [mj_i xs0] M :=
  hP 426 _ _ _ ⟨rfl, ⟨h.1, ⟨rfl, ⟨rfl, (h.2 _ rfl)⟩⟩⟩⟩
theorem rg_L_lays_439 {d : Nat} {P : Nat → mj_L → List mj_V → mj_M → Prop} {R : Option mj_V → mj_M → Prop} (hP : mj_Cl mj_c68 (mj_Sp d) (0 < d) P R) {x3 : Int32} {x4 : Int32} {x5 : Int32} {x6 : Int32} {x7 : Int32} {o8 : Option mj_V} {M : mj_M} (h :
  ∃ (y_2 : Int32) (M_1 : mj_M), mj_Sp d 63 [mj_r (41, 82, 0)] M (some (mj_i y_2)) M_1 ∧
  (y_2 ≤ x7 →
  P 540 [some (mj_r (13, 50, 0)), some (mj_r (41, 82, 0)), some (mj_r (17, 73, 0)), some (mj_i x3), some (mj_i x4), some (mj_i x5), some (mj_i x6), some (mj_i x7), o8] [] M_1) ∧
  (¬ y_2 ≤ x7 →
  (x3 = 0 →
    P 540 [some (mj_r (13, 50, 0)), some (mj_r (41, 82, 0)), some (mj_r (17, 73, 0)), some (mj_i x3), some (mj_i x4), some (mj_i x5), some (mj_i x6), some (mj_i x7), o8] [] M_1) ∧
    (¬ x3 = 0 →
    ¬ (nI 2) = 0 ∧ ∃ (y_4 : Int32) (M_3 : mj_M), mj_Sp d 62 [mj_r (41, 82, 0), mj_i ((nI 8) + (x4 % (nI 2)))] M_1 (some (mj_i y_4)) M_3 ∧
      ¬ (nI 2) = 0 ∧ ¬ (nI 4) = 0 ∧ ∀ x8_5 : Int32, x8_5 = (y_4 >>> ((((nI 4) * x7) + (x4 / (nI 2))) &&& 31)) % (nI 4) → (x8_5 ≤ x6 →
      P 491 [some (mj_r (13, 50, 0)), some (mj_r (41, 82, 0)), some (mj_r (17, 73, 0)), some (mj_i x3), some (mj_i x4), some (mj_i x5), some (mj_i x6), some (mj_i x7), some (mj_i x8_5)] [mj_i x8_5] M_3) ∧
      (¬ x8_5 ≤ x6 →
      P 491 [some (mj_r (13, 50, 0)), some (mj_r (41, 82, 0)), some (mj_r (17, 73, 0)), some (mj_i x3), some (mj_i x4), some (mj_i x5), some (mj_i x6), some (mj_i x7), some (mj_i x8_5)] [mj_i x6] M_3)))) : P 439 [some (mj_r (13, 50, 0)), some (mj_r (41, 82, 0)), some (mj_r (17, 73, 0)), some (mj_i x3), some (mj_i x4), some (mj_i x5), some (mj_i x6), some (mj_i x7), o8] [] M :=
  hP 439 _ _ _ ⟨rfl, Exists.elim h fun e1 g1 => Exists.elim g1 fun a1 b1 => ⟨e1, a1, b1.1, hP 445 _ _ _ ⟨fun c2 => (b1.2.1 c2), fun c2 => ⟨fun c3 => ((b1.2.2 c2).1 c3), fun c3 => ⟨((b1.2.2 c2).2 c3).1, ⟨rfl, Exists.elim (((b1.2.2 c2).2 c3).2) fun e4 g4 => Exists.elim g4 fun a4 b4 => ⟨e4, a4, b4.1, hP 463 _ _ _ ⟨b4.2.1, ⟨b4.2.2.1, ⟨rfl, ⟨fun c5 => hP 489 _ _ _ ((b4.2.2.2 _ rfl).1 c5), fun c5 => ((b4.2.2.2 _ rfl).2 c5)⟩⟩⟩⟩⟩⟩⟩⟩⟩⟩⟩
theorem rg_L_lays_491 {d : Nat} {P : Nat → mj_L → List mj_V → mj_M → Prop} {R : Option mj_V → mj_M → Prop} (hP : mj_Cl mj_c68 (mj_Sp d) (0 < d) P R) {x3 : Int32} {x4 : Int32} {x5 : Int32} {x6 : Int32} {x7 : Int32} {x8 : Int32} {xs0 : Int32} {M : mj_M} (h :
  ∀ x6_1 : Int32, x6_1 = x6 - xs0 → vp_in (((nI 18) + ((nI 6) * x4)) + x7) 55 ∧ ∀ M_2 : mj_M, M_2 = mj_wl M (17, 73, 0, (((nI 18) + ((nI 6) * x4)) + x7).toNatClampNeg) xs0 → ∃ (y_4 : Int32) (M_3 : mj_M), mj_Sp d 5 [mj_r (13, 50, 0), mj_i x4, mj_i x7, mj_i xs0] M_2 (some (mj_i y_4)) M_3 ∧
  (¬ y_4 = 0 →
  P 533 [some (mj_r (13, 50, 0)), some (mj_r (41, 82, 0)), some (mj_r (17, 73, 0)), some (mj_i x3), some (mj_i x4), some (mj_i x5), some (mj_i x6_1), some (mj_i x7), some (mj_i xs0)] [mj_i (nI 0)] M_3) ∧
  (¬ ¬ y_4 = 0 →
  P 533 [some (mj_r (13, 50, 0)), some (mj_r (41, 82, 0)), some (mj_r (17, 73, 0)), some (mj_i x3), some (mj_i x4), some (mj_i x5), some (mj_i x6_1), some (mj_i x7), some (mj_i xs0)] [mj_i (nI 1)] M_3)) : P 491 [some (mj_r (13, 50, 0)), some (mj_r (41, 82, 0)), some (mj_r (17, 73, 0)), some (mj_i x3), some (mj_i x4), some (mj_i x5), some (mj_i x6), some (mj_i x7), some (mj_i x8)] [mj_i xs0] M :=
  hP 491 _ _ _ ⟨rfl, ⟨rfl, ⟨rfl, ⟨(h _ rfl).1, ⟨rfl, Exists.elim ((h _ rfl).2 _ rfl) fun e1 g1 => Exists.elim g1 fun a1 b1 => ⟨e1, a1, b1.1, hP 525 _ _ _ ⟨fun c2 => hP 532 _ _ _ (b1.2.1 c2), fun c2 => (b1.2.2 c2)⟩⟩⟩⟩⟩⟩⟩
theorem rg_L_lays_533 {d : Nat} {P : Nat → mj_L → List mj_V → mj_M → Prop} {R : Option mj_V → mj_M → Prop} (hP : mj_Cl mj_c68 (mj_Sp d) (0 < d) P R) {x3 : Int32} {x4 : Int32} {x5 : Int32} {x6 : Int32} {x7 : Int32} {x8 : Int32} {xs0 : Int32} {M : mj_M} (h :
  ∀ x7_1 : Int32, x7_1 = x7 + (nI 1) → P 439 [some (mj_r (13, 50, 0)), some (mj_r (41, 82, 0)), some (mj_r (17, 73, 0)), some (mj_i xs0), some (mj_i x4), some (mj_i x5), some (mj_i x6), some (mj_i x7_1), some (mj_i x8)] [] M) : P 533 [some (mj_r (13, 50, 0)), some (mj_r (41, 82, 0)), some (mj_r (17, 73, 0)), some (mj_i x3), some (mj_i x4), some (mj_i x5), some (mj_i x6), some (mj_i x7), some (mj_i x8)] [mj_i xs0] M :=
  hP 533 _ _ _ ⟨rfl, ⟨rfl, (h _ rfl)⟩⟩
theorem rg_L_lays_540 {d : Nat} {P : Nat → mj_L → List mj_V → mj_M → Prop} {R : Option mj_V → mj_M → Prop} (hP : mj_Cl mj_c68 (mj_Sp d) (0 < d) P R) {x3 : Int32} {x4 : Int32} {x5 : Int32} {x6 : Int32} {x7 : Int32} {o8 : Option mj_V} {M : mj_M} (h :
  ∀ x4_1 : Int32, x4_1 = x4 + (nI 1) → P 281 [some (mj_r (13, 50, 0)), some (mj_r (41, 82, 0)), some (mj_r (17, 73, 0)), some (mj_i x3), some (mj_i x4_1), some (mj_i x5), some (mj_i x6), some (mj_i x7), o8] [] M) : P 540 [some (mj_r (13, 50, 0)), some (mj_r (41, 82, 0)), some (mj_r (17, 73, 0)), some (mj_i x3), some (mj_i x4), some (mj_i x5), some (mj_i x6), some (mj_i x7), o8] [] M :=
  hP 540 _ _ _ ⟨rfl, (h _ rfl)⟩
theorem rg_L_lays_546 {d : Nat} {P : Nat → mj_L → List mj_V → mj_M → Prop} {R : Option mj_V → mj_M → Prop} (hP : mj_Cl mj_c68 (mj_Sp d) (0 < d) P R) {x3 : Int32} {x4 : Int32} {o5 : Option mj_V} {o6 : Option mj_V} {o7 : Option mj_V} {o8 : Option mj_V} {M : mj_M} (h :
  (x3 = 0 ∨ x3 = 1) ∧ R (some (mj_i x3)) M) : P 546 [some (mj_r (13, 50, 0)), some (mj_r (41, 82, 0)), some (mj_r (17, 73, 0)), some (mj_i x3), some (mj_i x4), o5, o6, o7, o8] [] M :=
  hP 546 _ _ _ ⟨h.1, h.2⟩
theorem rg_L_apart_0 {d : Nat} {P : Nat → mj_L → List mj_V → mj_M → Prop} {R : Option mj_V → mj_M → Prop} (hP : mj_Cl mj_c69 (mj_Sp d) (0 < d) P R) {x0 : Int32} {x1 : Int32} {M : mj_M} (h :
  ¬ (nI 5) = 0 ∧ ¬ (nI 5) = 0 ∧ ∀ x2_1 : Int32, x2_1 = (x0 / (nI 5)) - (x1 / (nI 5)) → ¬ (nI 5) = 0 ∧ ¬ (nI 5) = 0 ∧ ∀ x3_2 : Int32, x3_2 = (x0 % (nI 5)) - (x1 % (nI 5)) → (0 ≤ x2_1 →
  (0 ≤ x3_2 →
    R (some (mj_i (x2_1 + x3_2))) M) ∧
    (¬ 0 ≤ x3_2 →
    R (some (mj_i (x2_1 + (-x3_2)))) M)) ∧
  (¬ 0 ≤ x2_1 →
  (0 ≤ x3_2 →
    R (some (mj_i ((-x2_1) + x3_2))) M) ∧
    (¬ 0 ≤ x3_2 →
    R (some (mj_i ((-x2_1) + (-x3_2)))) M))) : P 0 [some (mj_i x0), some (mj_i x1), none, none] [] M :=
  hP 0 _ _ _ ⟨h.1, ⟨h.2.1, ⟨rfl, ⟨(h.2.2 _ rfl).1, ⟨(h.2.2 _ rfl).2.1, ⟨rfl, ⟨fun c1 => hP 25 _ _ _ (hP 26 _ _ _ ⟨fun c2 => hP 35 _ _ _ (hP 36 _ _ _ ((((h.2.2 _ rfl).2.2 _ rfl).1 c1).1 c2)), fun c2 => hP 36 _ _ _ ((((h.2.2 _ rfl).2.2 _ rfl).1 c1).2 c2)⟩), fun c1 => hP 26 _ _ _ ⟨fun c3 => hP 35 _ _ _ (hP 36 _ _ _ ((((h.2.2 _ rfl).2.2 _ rfl).2 c1).1 c3)), fun c3 => hP 36 _ _ _ ((((h.2.2 _ rfl).2.2 _ rfl).2 c1).2 c3)⟩⟩⟩⟩⟩⟩⟩⟩
