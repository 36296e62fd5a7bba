/-- the heap behind the two constructors: the class's objects (places 0 to 26), the reference's (27 to 39), the hulls made since (40 and on) -/
def wl (D : va_G) (b : Nat) (sc : Nat → Int32) (ar : Nat → Nat → Int32) (hn : Nat → Option Nat) (mh : Int64) (G : List va_E) : List va_E :=
  .inr (11, [.ref (b + 1), .int (sc 0), .int (sc 1), .ref (b + 25), .ref (b + 26), .ref (b + 2), .int (sc 2), .int (sc 3), .ref (b + 3), .ref (b + 9), .ref (b + 18), .ref (b + 21), .ref (b + 22)]) ::
  .inl (D.1 13, 18, .inl (ar 1)) ::
  .inl (D.1 14, 3, .inr (.inr (.inr (.inr (fun i => (hn i).map (fun t => b + t)))))) ::
  .inr (8, [.int (sc 4), .ref (b + 4), .ref (b + 5), .ref (b + 6), .ref (b + 7), .ref (b + 8)]) ::
  .inl (D.1 13, 6, .inl (ar 4)) ::
  .inl (D.1 13, 6, .inl (ar 5)) ::
  .inl (D.1 13, 6, .inl (ar 6)) ::
  .inl (D.1 13, 41, .inl (ar 7)) ::
  .inl (D.1 13, 41, .inl (ar 8)) ::
  .inr (5, [.int (sc 6), .int (sc 7), .int (sc 8), .int (sc 9), .ref (b + 10), .ref (b + 16), .ref (b + 17)]) ::
  .inr (8, [.int (sc 5), .ref (b + 11), .ref (b + 12), .ref (b + 13), .ref (b + 14), .ref (b + 15)]) ::
  .inl (D.1 13, 6, .inl (ar 11)) ::
  .inl (D.1 13, 6, .inl (ar 12)) ::
  .inl (D.1 13, 6, .inl (ar 13)) ::
  .inl (D.1 13, 41, .inl (ar 14)) ::
  .inl (D.1 13, 41, .inl (ar 15)) ::
  .inl (D.1 13, 3, .inl (ar 16)) ::
  .inl (D.1 13, 3, .inl (ar 17)) ::
  .inr (0, [.ref (b + 19), .ref (b + 20)]) ::
  .inl (D.1 13, 12, .inl (ar 19)) ::
  .inl (D.1 13, 12, .inl (ar 20)) ::
  .inr (3, [.int (sc 10), .int (sc 11), .int (sc 12)]) ::
  .inr (6, [.ref (b + 23), .int (sc 13), .int (sc 14), .int (sc 15)]) ::
  .inl (D.1 13, 3, .inl (ar 23)) ::
  .inl (D.1 13, 12, .inl (ar 24)) ::
  .inr (7, [.ref (b + 24), .int (sc 16), .int (sc 17)]) ::
  .inr (7, [.ref (b + 24), .int (sc 18), .int (sc 19)]) ::
  .inr (12, [.ref (b + 28), .int (sc 20), .int (sc 21), .int (sc 22), .int (sc 23), .int (sc 24), .ref (b + 29), .int (sc 25), .ref (b + 30), .ref (b + 31), .ref (b + 32), .ref (b + 33), .ref (b + 34), .int (sc 26), .int (sc 27), .int (sc 28), .ref (b + 35), .ref (b + 36), .int (sc 29), .ref (b + 37), .int (sc 30), .int (sc 31), .int (sc 32), .int (sc 33), .int (sc 34), .ref (b + 38), .ref (b + 39), .long mh]) ::
  .inl (D.1 13, 18, .inl (ar 28)) ::
  .inl (D.1 13, 12, .inl (ar 29)) ::
  .inl (D.1 13, 12, .inl (ar 30)) ::
  .inl (D.1 13, 12, .inl (ar 31)) ::
  .inl (D.1 13, 12, .inl (ar 32)) ::
  .inl (D.1 13, 3, .inl (ar 33)) ::
  .inl (D.1 13, 3, .inl (ar 34)) ::
  .inl (D.1 13, 18, .inl (ar 35)) ::
  .inl (D.1 13, 48, .inl (ar 36)) ::
  .inl (D.1 13, 12, .inl (ar 37)) ::
  .inl (D.1 13, 12, .inl (ar 38)) ::
  .inl (D.1 13, 18, .inl (ar 39)) ::
  G
section WLS
variable {D : va_G} {b : Nat} {sc : Nat → Int32} {ar : Nat → Nat → Int32} {hn : Nat → Option Nat} {mh : Int64} {G : List va_E}
theorem wl_c0 : (wl D b sc ar hn mh G)[0]? = some (.inr (11, [.ref (b + 1), .int (sc 0), .int (sc 1), .ref (b + 25), .ref (b + 26), .ref (b + 2), .int (sc 2), .int (sc 3), .ref (b + 3), .ref (b + 9), .ref (b + 18), .ref (b + 21), .ref (b + 22)])) := rfl
theorem wl_c1 : (wl D b sc ar hn mh G)[1]? = some (.inl (D.1 13, 18, .inl (ar 1))) := rfl
theorem wl_c2 : (wl D b sc ar hn mh G)[2]? = some (.inl (D.1 14, 3, .inr (.inr (.inr (.inr (fun i => (hn i).map (fun t => b + t))))))) := rfl
theorem wl_c3 : (wl D b sc ar hn mh G)[3]? = some (.inr (8, [.int (sc 4), .ref (b + 4), .ref (b + 5), .ref (b + 6), .ref (b + 7), .ref (b + 8)])) := rfl
theorem wl_c4 : (wl D b sc ar hn mh G)[4]? = some (.inl (D.1 13, 6, .inl (ar 4))) := rfl
theorem wl_c5 : (wl D b sc ar hn mh G)[5]? = some (.inl (D.1 13, 6, .inl (ar 5))) := rfl
theorem wl_c6 : (wl D b sc ar hn mh G)[6]? = some (.inl (D.1 13, 6, .inl (ar 6))) := rfl
theorem wl_c7 : (wl D b sc ar hn mh G)[7]? = some (.inl (D.1 13, 41, .inl (ar 7))) := rfl
theorem wl_c8 : (wl D b sc ar hn mh G)[8]? = some (.inl (D.1 13, 41, .inl (ar 8))) := rfl
theorem wl_c9 : (wl D b sc ar hn mh G)[9]? = some (.inr (5, [.int (sc 6), .int (sc 7), .int (sc 8), .int (sc 9), .ref (b + 10), .ref (b + 16), .ref (b + 17)])) := rfl
theorem wl_c10 : (wl D b sc ar hn mh G)[10]? = some (.inr (8, [.int (sc 5), .ref (b + 11), .ref (b + 12), .ref (b + 13), .ref (b + 14), .ref (b + 15)])) := rfl
theorem wl_c11 : (wl D b sc ar hn mh G)[11]? = some (.inl (D.1 13, 6, .inl (ar 11))) := rfl
theorem wl_c12 : (wl D b sc ar hn mh G)[12]? = some (.inl (D.1 13, 6, .inl (ar 12))) := rfl
theorem wl_c13 : (wl D b sc ar hn mh G)[13]? = some (.inl (D.1 13, 6, .inl (ar 13))) := rfl
theorem wl_c14 : (wl D b sc ar hn mh G)[14]? = some (.inl (D.1 13, 41, .inl (ar 14))) := rfl
theorem wl_c15 : (wl D b sc ar hn mh G)[15]? = some (.inl (D.1 13, 41, .inl (ar 15))) := rfl
theorem wl_c16 : (wl D b sc ar hn mh G)[16]? = some (.inl (D.1 13, 3, .inl (ar 16))) := rfl
theorem wl_c17 : (wl D b sc ar hn mh G)[17]? = some (.inl (D.1 13, 3, .inl (ar 17))) := rfl
theorem wl_c18 : (wl D b sc ar hn mh G)[18]? = some (.inr (0, [.ref (b + 19), .ref (b + 20)])) := rfl
theorem wl_c19 : (wl D b sc ar hn mh G)[19]? = some (.inl (D.1 13, 12, .inl (ar 19))) := rfl
theorem wl_c20 : (wl D b sc ar hn mh G)[20]? = some (.inl (D.1 13, 12, .inl (ar 20))) := rfl
theorem wl_c21 : (wl D b sc ar hn mh G)[21]? = some (.inr (3, [.int (sc 10), .int (sc 11), .int (sc 12)])) := rfl
theorem wl_c22 : (wl D b sc ar hn mh G)[22]? = some (.inr (6, [.ref (b + 23), .int (sc 13), .int (sc 14), .int (sc 15)])) := rfl
theorem wl_c23 : (wl D b sc ar hn mh G)[23]? = some (.inl (D.1 13, 3, .inl (ar 23))) := rfl
theorem wl_c24 : (wl D b sc ar hn mh G)[24]? = some (.inl (D.1 13, 12, .inl (ar 24))) := rfl
theorem wl_c25 : (wl D b sc ar hn mh G)[25]? = some (.inr (7, [.ref (b + 24), .int (sc 16), .int (sc 17)])) := rfl
theorem wl_c26 : (wl D b sc ar hn mh G)[26]? = some (.inr (7, [.ref (b + 24), .int (sc 18), .int (sc 19)])) := rfl
theorem wl_c27 : (wl D b sc ar hn mh G)[27]? = some (.inr (12, [.ref (b + 28), .int (sc 20), .int (sc 21), .int (sc 22), .int (sc 23), .int (sc 24), .ref (b + 29), .int (sc 25), .ref (b + 30), .ref (b + 31), .ref (b + 32), .ref (b + 33), .ref (b + 34), .int (sc 26), .int (sc 27), .int (sc 28), .ref (b + 35), .ref (b + 36), .int (sc 29), .ref (b + 37), .int (sc 30), .int (sc 31), .int (sc 32), .int (sc 33), .int (sc 34), .ref (b + 38), .ref (b + 39), .long mh])) := rfl
theorem wl_c28 : (wl D b sc ar hn mh G)[28]? = some (.inl (D.1 13, 18, .inl (ar 28))) := rfl
theorem wl_c29 : (wl D b sc ar hn mh G)[29]? = some (.inl (D.1 13, 12, .inl (ar 29))) := rfl
theorem wl_c30 : (wl D b sc ar hn mh G)[30]? = some (.inl (D.1 13, 12, .inl (ar 30))) := rfl
theorem wl_c31 : (wl D b sc ar hn mh G)[31]? = some (.inl (D.1 13, 12, .inl (ar 31))) := rfl
theorem wl_c32 : (wl D b sc ar hn mh G)[32]? = some (.inl (D.1 13, 12, .inl (ar 32))) := rfl
theorem wl_c33 : (wl D b sc ar hn mh G)[33]? = some (.inl (D.1 13, 3, .inl (ar 33))) := rfl
theorem wl_c34 : (wl D b sc ar hn mh G)[34]? = some (.inl (D.1 13, 3, .inl (ar 34))) := rfl
theorem wl_c35 : (wl D b sc ar hn mh G)[35]? = some (.inl (D.1 13, 18, .inl (ar 35))) := rfl
theorem wl_c36 : (wl D b sc ar hn mh G)[36]? = some (.inl (D.1 13, 48, .inl (ar 36))) := rfl
theorem wl_c37 : (wl D b sc ar hn mh G)[37]? = some (.inl (D.1 13, 12, .inl (ar 37))) := rfl
theorem wl_c38 : (wl D b sc ar hn mh G)[38]? = some (.inl (D.1 13, 12, .inl (ar 38))) := rfl
theorem wl_c39 : (wl D b sc ar hn mh G)[39]? = some (.inl (D.1 13, 18, .inl (ar 39))) := rfl
theorem wl_p0_1 {v : Int32} : (wl D b sc ar hn mh G).set 0 (.inr (11, ([.ref (b + 1), .int (sc 0), .int (sc 1), .ref (b + 25), .ref (b + 26), .ref (b + 2), .int (sc 2), .int (sc 3), .ref (b + 3), .ref (b + 9), .ref (b + 18), .ref (b + 21), .ref (b + 22)] : List Value).set 1 (.int v))) = wl D b (va_up sc 0 v) ar hn mh G := rfl
theorem wl_p0_2 {v : Int32} : (wl D b sc ar hn mh G).set 0 (.inr (11, ([.ref (b + 1), .int (sc 0), .int (sc 1), .ref (b + 25), .ref (b + 26), .ref (b + 2), .int (sc 2), .int (sc 3), .ref (b + 3), .ref (b + 9), .ref (b + 18), .ref (b + 21), .ref (b + 22)] : List Value).set 2 (.int v))) = wl D b (va_up sc 1 v) ar hn mh G := rfl
theorem wl_p0_6 {v : Int32} : (wl D b sc ar hn mh G).set 0 (.inr (11, ([.ref (b + 1), .int (sc 0), .int (sc 1), .ref (b + 25), .ref (b + 26), .ref (b + 2), .int (sc 2), .int (sc 3), .ref (b + 3), .ref (b + 9), .ref (b + 18), .ref (b + 21), .ref (b + 22)] : List Value).set 6 (.int v))) = wl D b (va_up sc 2 v) ar hn mh G := rfl
theorem wl_p0_7 {v : Int32} : (wl D b sc ar hn mh G).set 0 (.inr (11, ([.ref (b + 1), .int (sc 0), .int (sc 1), .ref (b + 25), .ref (b + 26), .ref (b + 2), .int (sc 2), .int (sc 3), .ref (b + 3), .ref (b + 9), .ref (b + 18), .ref (b + 21), .ref (b + 22)] : List Value).set 7 (.int v))) = wl D b (va_up sc 3 v) ar hn mh G := rfl
theorem wl_a1 (g : Nat → Int32) : (wl D b sc ar hn mh G).set 1 (.inl (D.1 13, 18, .inl g)) = wl D b sc (va_up ar 1 g) hn mh G := rfl
theorem wl_p3_0 {v : Int32} : (wl D b sc ar hn mh G).set 3 (.inr (8, ([.int (sc 4), .ref (b + 4), .ref (b + 5), .ref (b + 6), .ref (b + 7), .ref (b + 8)] : List Value).set 0 (.int v))) = wl D b (va_up sc 4 v) ar hn mh G := rfl
theorem wl_a4 (g : Nat → Int32) : (wl D b sc ar hn mh G).set 4 (.inl (D.1 13, 6, .inl g)) = wl D b sc (va_up ar 4 g) hn mh G := rfl
theorem wl_a5 (g : Nat → Int32) : (wl D b sc ar hn mh G).set 5 (.inl (D.1 13, 6, .inl g)) = wl D b sc (va_up ar 5 g) hn mh G := rfl
theorem wl_a6 (g : Nat → Int32) : (wl D b sc ar hn mh G).set 6 (.inl (D.1 13, 6, .inl g)) = wl D b sc (va_up ar 6 g) hn mh G := rfl
theorem wl_a7 (g : Nat → Int32) : (wl D b sc ar hn mh G).set 7 (.inl (D.1 13, 41, .inl g)) = wl D b sc (va_up ar 7 g) hn mh G := rfl
theorem wl_a8 (g : Nat → Int32) : (wl D b sc ar hn mh G).set 8 (.inl (D.1 13, 41, .inl g)) = wl D b sc (va_up ar 8 g) hn mh G := rfl
theorem wl_p9_0 {v : Int32} : (wl D b sc ar hn mh G).set 9 (.inr (5, ([.int (sc 6), .int (sc 7), .int (sc 8), .int (sc 9), .ref (b + 10), .ref (b + 16), .ref (b + 17)] : List Value).set 0 (.int v))) = wl D b (va_up sc 6 v) ar hn mh G := rfl
theorem wl_p9_1 {v : Int32} : (wl D b sc ar hn mh G).set 9 (.inr (5, ([.int (sc 6), .int (sc 7), .int (sc 8), .int (sc 9), .ref (b + 10), .ref (b + 16), .ref (b + 17)] : List Value).set 1 (.int v))) = wl D b (va_up sc 7 v) ar hn mh G := rfl
theorem wl_p9_2 {v : Int32} : (wl D b sc ar hn mh G).set 9 (.inr (5, ([.int (sc 6), .int (sc 7), .int (sc 8), .int (sc 9), .ref (b + 10), .ref (b + 16), .ref (b + 17)] : List Value).set 2 (.int v))) = wl D b (va_up sc 8 v) ar hn mh G := rfl
theorem wl_p9_3 {v : Int32} : (wl D b sc ar hn mh G).set 9 (.inr (5, ([.int (sc 6), .int (sc 7), .int (sc 8), .int (sc 9), .ref (b + 10), .ref (b + 16), .ref (b + 17)] : List Value).set 3 (.int v))) = wl D b (va_up sc 9 v) ar hn mh G := rfl
theorem wl_p10_0 {v : Int32} : (wl D b sc ar hn mh G).set 10 (.inr (8, ([.int (sc 5), .ref (b + 11), .ref (b + 12), .ref (b + 13), .ref (b + 14), .ref (b + 15)] : List Value).set 0 (.int v))) = wl D b (va_up sc 5 v) ar hn mh G := rfl
theorem wl_a11 (g : Nat → Int32) : (wl D b sc ar hn mh G).set 11 (.inl (D.1 13, 6, .inl g)) = wl D b sc (va_up ar 11 g) hn mh G := rfl
theorem wl_a12 (g : Nat → Int32) : (wl D b sc ar hn mh G).set 12 (.inl (D.1 13, 6, .inl g)) = wl D b sc (va_up ar 12 g) hn mh G := rfl
theorem wl_a13 (g : Nat → Int32) : (wl D b sc ar hn mh G).set 13 (.inl (D.1 13, 6, .inl g)) = wl D b sc (va_up ar 13 g) hn mh G := rfl
theorem wl_a14 (g : Nat → Int32) : (wl D b sc ar hn mh G).set 14 (.inl (D.1 13, 41, .inl g)) = wl D b sc (va_up ar 14 g) hn mh G := rfl
theorem wl_a15 (g : Nat → Int32) : (wl D b sc ar hn mh G).set 15 (.inl (D.1 13, 41, .inl g)) = wl D b sc (va_up ar 15 g) hn mh G := rfl
theorem wl_a16 (g : Nat → Int32) : (wl D b sc ar hn mh G).set 16 (.inl (D.1 13, 3, .inl g)) = wl D b sc (va_up ar 16 g) hn mh G := rfl
theorem wl_a17 (g : Nat → Int32) : (wl D b sc ar hn mh G).set 17 (.inl (D.1 13, 3, .inl g)) = wl D b sc (va_up ar 17 g) hn mh G := rfl
theorem wl_a19 (g : Nat → Int32) : (wl D b sc ar hn mh G).set 19 (.inl (D.1 13, 12, .inl g)) = wl D b sc (va_up ar 19 g) hn mh G := rfl
theorem wl_a20 (g : Nat → Int32) : (wl D b sc ar hn mh G).set 20 (.inl (D.1 13, 12, .inl g)) = wl D b sc (va_up ar 20 g) hn mh G := rfl
theorem wl_p21_0 {v : Int32} : (wl D b sc ar hn mh G).set 21 (.inr (3, ([.int (sc 10), .int (sc 11), .int (sc 12)] : List Value).set 0 (.int v))) = wl D b (va_up sc 10 v) ar hn mh G := rfl
theorem wl_p21_1 {v : Int32} : (wl D b sc ar hn mh G).set 21 (.inr (3, ([.int (sc 10), .int (sc 11), .int (sc 12)] : List Value).set 1 (.int v))) = wl D b (va_up sc 11 v) ar hn mh G := rfl
theorem wl_p21_2 {v : Int32} : (wl D b sc ar hn mh G).set 21 (.inr (3, ([.int (sc 10), .int (sc 11), .int (sc 12)] : List Value).set 2 (.int v))) = wl D b (va_up sc 12 v) ar hn mh G := rfl
theorem wl_p22_1 {v : Int32} : (wl D b sc ar hn mh G).set 22 (.inr (6, ([.ref (b + 23), .int (sc 13), .int (sc 14), .int (sc 15)] : List Value).set 1 (.int v))) = wl D b (va_up sc 13 v) ar hn mh G := rfl
theorem wl_p22_2 {v : Int32} : (wl D b sc ar hn mh G).set 22 (.inr (6, ([.ref (b + 23), .int (sc 13), .int (sc 14), .int (sc 15)] : List Value).set 2 (.int v))) = wl D b (va_up sc 14 v) ar hn mh G := rfl
theorem wl_p22_3 {v : Int32} : (wl D b sc ar hn mh G).set 22 (.inr (6, ([.ref (b + 23), .int (sc 13), .int (sc 14), .int (sc 15)] : List Value).set 3 (.int v))) = wl D b (va_up sc 15 v) ar hn mh G := rfl
theorem wl_a23 (g : Nat → Int32) : (wl D b sc ar hn mh G).set 23 (.inl (D.1 13, 3, .inl g)) = wl D b sc (va_up ar 23 g) hn mh G := rfl
theorem wl_a24 (g : Nat → Int32) : (wl D b sc ar hn mh G).set 24 (.inl (D.1 13, 12, .inl g)) = wl D b sc (va_up ar 24 g) hn mh G := rfl
theorem wl_p25_1 {v : Int32} : (wl D b sc ar hn mh G).set 25 (.inr (7, ([.ref (b + 24), .int (sc 16), .int (sc 17)] : List Value).set 1 (.int v))) = wl D b (va_up sc 16 v) ar hn mh G := rfl
theorem wl_p25_2 {v : Int32} : (wl D b sc ar hn mh G).set 25 (.inr (7, ([.ref (b + 24), .int (sc 16), .int (sc 17)] : List Value).set 2 (.int v))) = wl D b (va_up sc 17 v) ar hn mh G := rfl
theorem wl_p26_1 {v : Int32} : (wl D b sc ar hn mh G).set 26 (.inr (7, ([.ref (b + 24), .int (sc 18), .int (sc 19)] : List Value).set 1 (.int v))) = wl D b (va_up sc 18 v) ar hn mh G := rfl
theorem wl_p26_2 {v : Int32} : (wl D b sc ar hn mh G).set 26 (.inr (7, ([.ref (b + 24), .int (sc 18), .int (sc 19)] : List Value).set 2 (.int v))) = wl D b (va_up sc 19 v) ar hn mh G := rfl
theorem wl_p27_1 {v : Int32} : (wl D b sc ar hn mh G).set 27 (.inr (12, ([.ref (b + 28), .int (sc 20), .int (sc 21), .int (sc 22), .int (sc 23), .int (sc 24), .ref (b + 29), .int (sc 25), .ref (b + 30), .ref (b + 31), .ref (b + 32), .ref (b + 33), .ref (b + 34), .int (sc 26), .int (sc 27), .int (sc 28), .ref (b + 35), .ref (b + 36), .int (sc 29), .ref (b + 37), .int (sc 30), .int (sc 31), .int (sc 32), .int (sc 33), .int (sc 34), .ref (b + 38), .ref (b + 39), .long mh] : List Value).set 1 (.int v))) = wl D b (va_up sc 20 v) ar hn mh G := rfl
theorem wl_p27_2 {v : Int32} : (wl D b sc ar hn mh G).set 27 (.inr (12, ([.ref (b + 28), .int (sc 20), .int (sc 21), .int (sc 22), .int (sc 23), .int (sc 24), .ref (b + 29), .int (sc 25), .ref (b + 30), .ref (b + 31), .ref (b + 32), .ref (b + 33), .ref (b + 34), .int (sc 26), .int (sc 27), .int (sc 28), .ref (b + 35), .ref (b + 36), .int (sc 29), .ref (b + 37), .int (sc 30), .int (sc 31), .int (sc 32), .int (sc 33), .int (sc 34), .ref (b + 38), .ref (b + 39), .long mh] : List Value).set 2 (.int v))) = wl D b (va_up sc 21 v) ar hn mh G := rfl
theorem wl_p27_3 {v : Int32} : (wl D b sc ar hn mh G).set 27 (.inr (12, ([.ref (b + 28), .int (sc 20), .int (sc 21), .int (sc 22), .int (sc 23), .int (sc 24), .ref (b + 29), .int (sc 25), .ref (b + 30), .ref (b + 31), .ref (b + 32), .ref (b + 33), .ref (b + 34), .int (sc 26), .int (sc 27), .int (sc 28), .ref (b + 35), .ref (b + 36), .int (sc 29), .ref (b + 37), .int (sc 30), .int (sc 31), .int (sc 32), .int (sc 33), .int (sc 34), .ref (b + 38), .ref (b + 39), .long mh] : List Value).set 3 (.int v))) = wl D b (va_up sc 22 v) ar hn mh G := rfl
theorem wl_p27_4 {v : Int32} : (wl D b sc ar hn mh G).set 27 (.inr (12, ([.ref (b + 28), .int (sc 20), .int (sc 21), .int (sc 22), .int (sc 23), .int (sc 24), .ref (b + 29), .int (sc 25), .ref (b + 30), .ref (b + 31), .ref (b + 32), .ref (b + 33), .ref (b + 34), .int (sc 26), .int (sc 27), .int (sc 28), .ref (b + 35), .ref (b + 36), .int (sc 29), .ref (b + 37), .int (sc 30), .int (sc 31), .int (sc 32), .int (sc 33), .int (sc 34), .ref (b + 38), .ref (b + 39), .long mh] : List Value).set 4 (.int v))) = wl D b (va_up sc 23 v) ar hn mh G := rfl
theorem wl_p27_5 {v : Int32} : (wl D b sc ar hn mh G).set 27 (.inr (12, ([.ref (b + 28), .int (sc 20), .int (sc 21), .int (sc 22), .int (sc 23), .int (sc 24), .ref (b + 29), .int (sc 25), .ref (b + 30), .ref (b + 31), .ref (b + 32), .ref (b + 33), .ref (b + 34), .int (sc 26), .int (sc 27), .int (sc 28), .ref (b + 35), .ref (b + 36), .int (sc 29), .ref (b + 37), .int (sc 30), .int (sc 31), .int (sc 32), .int (sc 33), .int (sc 34), .ref (b + 38), .ref (b + 39), .long mh] : List Value).set 5 (.int v))) = wl D b (va_up sc 24 v) ar hn mh G := rfl
theorem wl_p27_7 {v : Int32} : (wl D b sc ar hn mh G).set 27 (.inr (12, ([.ref (b + 28), .int (sc 20), .int (sc 21), .int (sc 22), .int (sc 23), .int (sc 24), .ref (b + 29), .int (sc 25), .ref (b + 30), .ref (b + 31), .ref (b + 32), .ref (b + 33), .ref (b + 34), .int (sc 26), .int (sc 27), .int (sc 28), .ref (b + 35), .ref (b + 36), .int (sc 29), .ref (b + 37), .int (sc 30), .int (sc 31), .int (sc 32), .int (sc 33), .int (sc 34), .ref (b + 38), .ref (b + 39), .long mh] : List Value).set 7 (.int v))) = wl D b (va_up sc 25 v) ar hn mh G := rfl
theorem wl_p27_13 {v : Int32} : (wl D b sc ar hn mh G).set 27 (.inr (12, ([.ref (b + 28), .int (sc 20), .int (sc 21), .int (sc 22), .int (sc 23), .int (sc 24), .ref (b + 29), .int (sc 25), .ref (b + 30), .ref (b + 31), .ref (b + 32), .ref (b + 33), .ref (b + 34), .int (sc 26), .int (sc 27), .int (sc 28), .ref (b + 35), .ref (b + 36), .int (sc 29), .ref (b + 37), .int (sc 30), .int (sc 31), .int (sc 32), .int (sc 33), .int (sc 34), .ref (b + 38), .ref (b + 39), .long mh] : List Value).set 13 (.int v))) = wl D b (va_up sc 26 v) ar hn mh G := rfl
theorem wl_p27_14 {v : Int32} : (wl D b sc ar hn mh G).set 27 (.inr (12, ([.ref (b + 28), .int (sc 20), .int (sc 21), .int (sc 22), .int (sc 23), .int (sc 24), .ref (b + 29), .int (sc 25), .ref (b + 30), .ref (b + 31), .ref (b + 32), .ref (b + 33), .ref (b + 34), .int (sc 26), .int (sc 27), .int (sc 28), .ref (b + 35), .ref (b + 36), .int (sc 29), .ref (b + 37), .int (sc 30), .int (sc 31), .int (sc 32), .int (sc 33), .int (sc 34), .ref (b + 38), .ref (b + 39), .long mh] : List Value).set 14 (.int v))) = wl D b (va_up sc 27 v) ar hn mh G := rfl
theorem wl_p27_15 {v : Int32} : (wl D b sc ar hn mh G).set 27 (.inr (12, ([.ref (b + 28), .int (sc 20), .int (sc 21), .int (sc 22), .int (sc 23), .int (sc 24), .ref (b + 29), .int (sc 25), .ref (b + 30), .ref (b + 31), .ref (b + 32), .ref (b + 33), .ref (b + 34), .int (sc 26), .int (sc 27), .int (sc 28), .ref (b + 35), .ref (b + 36), .int (sc 29), .ref (b + 37), .int (sc 30), .int (sc 31), .int (sc 32), .int (sc 33), .int (sc 34), .ref (b + 38), .ref (b + 39), .long mh] : List Value).set 15 (.int v))) = wl D b (va_up sc 28 v) ar hn mh G := rfl
theorem wl_p27_18 {v : Int32} : (wl D b sc ar hn mh G).set 27 (.inr (12, ([.ref (b + 28), .int (sc 20), .int (sc 21), .int (sc 22), .int (sc 23), .int (sc 24), .ref (b + 29), .int (sc 25), .ref (b + 30), .ref (b + 31), .ref (b + 32), .ref (b + 33), .ref (b + 34), .int (sc 26), .int (sc 27), .int (sc 28), .ref (b + 35), .ref (b + 36), .int (sc 29), .ref (b + 37), .int (sc 30), .int (sc 31), .int (sc 32), .int (sc 33), .int (sc 34), .ref (b + 38), .ref (b + 39), .long mh] : List Value).set 18 (.int v))) = wl D b (va_up sc 29 v) ar hn mh G := rfl
theorem wl_p27_20 {v : Int32} : (wl D b sc ar hn mh G).set 27 (.inr (12, ([.ref (b + 28), .int (sc 20), .int (sc 21), .int (sc 22), .int (sc 23), .int (sc 24), .ref (b + 29), .int (sc 25), .ref (b + 30), .ref (b + 31), .ref (b + 32), .ref (b + 33), .ref (b + 34), .int (sc 26), .int (sc 27), .int (sc 28), .ref (b + 35), .ref (b + 36), .int (sc 29), .ref (b + 37), .int (sc 30), .int (sc 31), .int (sc 32), .int (sc 33), .int (sc 34), .ref (b + 38), .ref (b + 39), .long mh] : List Value).set 20 (.int v))) = wl D b (va_up sc 30 v) ar hn mh G := rfl
theorem wl_p27_21 {v : Int32} : (wl D b sc ar hn mh G).set 27 (.inr (12, ([.ref (b + 28), .int (sc 20), .int (sc 21), .int (sc 22), .int (sc 23), .int (sc 24), .ref (b + 29), .int (sc 25), .ref (b + 30), .ref (b + 31), .ref (b + 32), .ref (b + 33), .ref (b + 34), .int (sc 26), .int (sc 27), .int (sc 28), .ref (b + 35), .ref (b + 36), .int (sc 29), .ref (b + 37), .int (sc 30), .int (sc 31), .int (sc 32), .int (sc 33), .int (sc 34), .ref (b + 38), .ref (b + 39), .long mh] : List Value).set 21 (.int v))) = wl D b (va_up sc 31 v) ar hn mh G := rfl
theorem wl_p27_22 {v : Int32} : (wl D b sc ar hn mh G).set 27 (.inr (12, ([.ref (b + 28), .int (sc 20), .int (sc 21), .int (sc 22), .int (sc 23), .int (sc 24), .ref (b + 29), .int (sc 25), .ref (b + 30), .ref (b + 31), .ref (b + 32), .ref (b + 33), .ref (b + 34), .int (sc 26), .int (sc 27), .int (sc 28), .ref (b + 35), .ref (b + 36), .int (sc 29), .ref (b + 37), .int (sc 30), .int (sc 31), .int (sc 32), .int (sc 33), .int (sc 34), .ref (b + 38), .ref (b + 39), .long mh] : List Value).set 22 (.int v))) = wl D b (va_up sc 32 v) ar hn mh G := rfl
theorem wl_p27_23 {v : Int32} : (wl D b sc ar hn mh G).set 27 (.inr (12, ([.ref (b + 28), .int (sc 20), .int (sc 21), .int (sc 22), .int (sc 23), .int (sc 24), .ref (b + 29), .int (sc 25), .ref (b + 30), .ref (b + 31), .ref (b + 32), .ref (b + 33), .ref (b + 34), .int (sc 26), .int (sc 27), .int (sc 28), .ref (b + 35), .ref (b + 36), .int (sc 29), .ref (b + 37), .int (sc 30), .int (sc 31), .int (sc 32), .int (sc 33), .int (sc 34), .ref (b + 38), .ref (b + 39), .long mh] : List Value).set 23 (.int v))) = wl D b (va_up sc 33 v) ar hn mh G := rfl
theorem wl_p27_24 {v : Int32} : (wl D b sc ar hn mh G).set 27 (.inr (12, ([.ref (b + 28), .int (sc 20), .int (sc 21), .int (sc 22), .int (sc 23), .int (sc 24), .ref (b + 29), .int (sc 25), .ref (b + 30), .ref (b + 31), .ref (b + 32), .ref (b + 33), .ref (b + 34), .int (sc 26), .int (sc 27), .int (sc 28), .ref (b + 35), .ref (b + 36), .int (sc 29), .ref (b + 37), .int (sc 30), .int (sc 31), .int (sc 32), .int (sc 33), .int (sc 34), .ref (b + 38), .ref (b + 39), .long mh] : List Value).set 24 (.int v))) = wl D b (va_up sc 34 v) ar hn mh G := rfl
theorem wl_p27_27 {v : Int64} : (wl D b sc ar hn mh G).set 27 (.inr (12, ([.ref (b + 28), .int (sc 20), .int (sc 21), .int (sc 22), .int (sc 23), .int (sc 24), .ref (b + 29), .int (sc 25), .ref (b + 30), .ref (b + 31), .ref (b + 32), .ref (b + 33), .ref (b + 34), .int (sc 26), .int (sc 27), .int (sc 28), .ref (b + 35), .ref (b + 36), .int (sc 29), .ref (b + 37), .int (sc 30), .int (sc 31), .int (sc 32), .int (sc 33), .int (sc 34), .ref (b + 38), .ref (b + 39), .long mh] : List Value).set 27 (.long v))) = wl D b sc ar hn v G := rfl
theorem wl_a28 (g : Nat → Int32) : (wl D b sc ar hn mh G).set 28 (.inl (D.1 13, 18, .inl g)) = wl D b sc (va_up ar 28 g) hn mh G := rfl
theorem wl_a29 (g : Nat → Int32) : (wl D b sc ar hn mh G).set 29 (.inl (D.1 13, 12, .inl g)) = wl D b sc (va_up ar 29 g) hn mh G := rfl
theorem wl_a30 (g : Nat → Int32) : (wl D b sc ar hn mh G).set 30 (.inl (D.1 13, 12, .inl g)) = wl D b sc (va_up ar 30 g) hn mh G := rfl
theorem wl_a31 (g : Nat → Int32) : (wl D b sc ar hn mh G).set 31 (.inl (D.1 13, 12, .inl g)) = wl D b sc (va_up ar 31 g) hn mh G := rfl
theorem wl_a32 (g : Nat → Int32) : (wl D b sc ar hn mh G).set 32 (.inl (D.1 13, 12, .inl g)) = wl D b sc (va_up ar 32 g) hn mh G := rfl
theorem wl_a33 (g : Nat → Int32) : (wl D b sc ar hn mh G).set 33 (.inl (D.1 13, 3, .inl g)) = wl D b sc (va_up ar 33 g) hn mh G := rfl
theorem wl_a34 (g : Nat → Int32) : (wl D b sc ar hn mh G).set 34 (.inl (D.1 13, 3, .inl g)) = wl D b sc (va_up ar 34 g) hn mh G := rfl
theorem wl_a35 (g : Nat → Int32) : (wl D b sc ar hn mh G).set 35 (.inl (D.1 13, 18, .inl g)) = wl D b sc (va_up ar 35 g) hn mh G := rfl
theorem wl_a36 (g : Nat → Int32) : (wl D b sc ar hn mh G).set 36 (.inl (D.1 13, 48, .inl g)) = wl D b sc (va_up ar 36 g) hn mh G := rfl
theorem wl_a37 (g : Nat → Int32) : (wl D b sc ar hn mh G).set 37 (.inl (D.1 13, 12, .inl g)) = wl D b sc (va_up ar 37 g) hn mh G := rfl
theorem wl_a38 (g : Nat → Int32) : (wl D b sc ar hn mh G).set 38 (.inl (D.1 13, 12, .inl g)) = wl D b sc (va_up ar 38 g) hn mh G := rfl
theorem wl_a39 (g : Nat → Int32) : (wl D b sc ar hn mh G).set 39 (.inl (D.1 13, 18, .inl g)) = wl D b sc (va_up ar 39 g) hn mh G := rfl
theorem wl_t {u : Nat} {e : va_E} : (wl D b sc ar hn mh G).set (u + 40) e = wl D b sc ar hn mh (G.set u e) := rfl
theorem wl_tail {u : Nat} {e : va_E} (h : G[u]? = some e) : (wl D b sc ar hn mh G)[u + 40]? = some e := h
theorem wl_len : (wl D b sc ar hn mh G).length = G.length + 40 := rfl
theorem wl_push {e : va_E} : wl D b sc ar hn mh G ++ [e] = wl D b sc ar hn mh (G ++ [e]) := rfl
theorem wl_h {i : Nat} {v : Option Nat} : (wl D b sc ar hn mh G).set 2 (.inl (D.1 14, 3, .inr (.inr (.inr (.inr (va_up (fun i => (hn i).map (fun t => b + t)) i (v.map (fun t => b + t)))))))) = wl D b sc ar (va_up hn i v) mh G := by
  have h : va_up (fun i => (hn i).map (fun t => b + t)) i (v.map (fun t => b + t)) = fun j => ((va_up hn i v) j).map (fun t => b + t) := by
    funext j
    by_cases hj : j = i
    · subst hj; simp [va_up]
    · simp [va_up, hj]
  rw [h]
  rfl
end WLS
/-- what the slots of the hulls hold: kind, draught, cell, hours sailed -/
abbrev HV : Type := Nat → Option (Nat × Int32 × Int32 × Int32)
def HVr (hn : Nat → Option Nat) (G : List va_E) (hv : HV) : Prop := (∀ i, hv i = none → hn i = none) ∧ (∀ i k dr ce sa, hv i = some (k, dr, ce, sa) → ∃ u, hn i = some (u + 40) ∧ k < 5 ∧ G[u]? = some (hcl k dr ce sa)) ∧ (∀ i j t, hn i = some t → hn j = some t → i = j)
