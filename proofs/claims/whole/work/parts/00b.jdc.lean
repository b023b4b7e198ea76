def jd_313 (p0 : Int) (p1 : Int) (m : jM) : Option (Int × jM) :=
  jd_313_b30 p0 p1 (if (jw (jd_311 p0 m)) = 0 then 1 else (if (jw (jd_204 (jw p1) 0 7)) = 0 then 2 else 0)) m
def jd_314_b31 (y0 : Int) (m : jM) : Option Int :=
  ((jbc y0).bind fun u2 => some y0)
def jd_314 (p0 : Int) (p1 : Int) (m : jM) : Option Int :=
  (if (jw (jd_311 p0 m)) = 0 then jd_314_b31 0 m else ((jma m 87 p0).bind fun v4 => jd_314_b31 (if (jw (jd_204 (jw p1) 0 (jw (v4 - 1)))) = 0 then 0 else 1) m))
def jd_315_b31 (x1 : Int) (x2 : Int) (x3 : Int) (y0 : Int) (m : jM) : Option (Int × jM) :=
  ((some (jms m 76 0 y0)).bind fun m3 => (if (jw (m3 76 0)) ≤ 0 then (if (jw x3) = 0 then ((jma m3 90 ((12 * x1) + x2)).bind fun v7 => some (v7, m3)) else (if (jw x3) = 1 then ((jma m3 91 ((12 * x1) + x2)).bind fun v10 => some (v10, m3)) else (if (jw x3) = 2 then ((jma m3 92 ((12 * x1) + x2)).bind fun v13 => some (v13, m3)) else (if (jw x3) = 3 then ((jma m3 93 ((12 * x1) + x2)).bind fun v16 => some (v16, m3)) else (if (jw x3) = 4 then ((jma m3 94 ((12 * x1) + x2)).bind fun v19 => some (v19, m3)) else (if (jw x3) = 5 then ((jmz m3 95 ((12 * x1) + x2)).bind fun v22 => some ((if (jw v22) = 0 then 0 else 1), m3)) else (if (jw x3) = 6 then ((jma m3 96 ((12 * x1) + x2)).bind fun v27 => some (v27, m3)) else ((jma m3 97 ((12 * x1) + x2)).bind fun v29 => some (v29, m3))))))))) else some (0, m3)))
def jd_315 (p0 : Int) (p1 : Int) (p2 : Int) (m : jM) : Option (Int × jM) :=
  ((jd_314 p0 p1 m).bind fun v1 => jd_315_b31 p0 p1 p2 (if (jw v1) = 0 then 1 else (if (jw (jd_204 (jw p2) 0 7)) = 0 then 2 else 0)) m)
def jd_316 (p0 : Int) (m : jM) : Option Int :=
  ((jma m 84 p0).bind fun v1 => ((jma m 85 p0).bind fun v3 => some ((jdiv v1 8) * (jdiv v3 8))))
def jd_317_b94 (y0 : Int) (m : jM) : Option (Int × jM) :=
  some (y0, m)
def jd_317_b36 (x1 : Int) (x2 : Int) (x3 : Int) (x4 : Int) (m : jM) : Option (Int × jM) :=
  ((some (jms m 76 0 1)).bind fun m4 => (if (jw (m4 76 0)) ≤ 0 then ((jma m4 101 (((63 * ((12 * x1) + x2)) + (7 * x3)) + x4)).bind fun v7 => jd_317_b94 v7 m4) else jd_317_b94 0 m4))
def jd_317_b58 (x1 : Int) (x2 : Int) (x3 : Int) (x4 : Int) (y0 : Int) (m : jM) : Option (Int × jM) :=
  ((some (jms m 76 0 y0)).bind fun m14 => (if (jw (m14 76 0)) ≤ 0 then ((jma m14 101 (((63 * ((12 * x1) + x2)) + (7 * x3)) + x4)).bind fun v17 => jd_317_b94 v17 m14) else jd_317_b94 0 m14))
def jd_317 (p0 : Int) (p1 : Int) (p2 : Int) (p3 : Int) (m : jM) : Option (Int × jM) :=
  ((jd_314 p0 p1 m).bind fun v1 => (if (jw v1) = 0 then jd_317_b36 p0 p1 p2 p3 m else ((jma m 83 p0).bind fun v9 => (if (jw v9) = 0 then ((jd_316 p0 m).bind fun v12 => jd_317_b58 p0 p1 p2 p3 (if (jw (jd_204 (jw p2) 0 (jw (v12 - 1)))) = 0 then 1 else (if (jw (jd_204 (jw p3) 0 6)) = 0 then 2 else 0)) m) else jd_317_b36 p0 p1 p2 p3 m))))
def jd_318_s2 (x1 : Int) (x2 : Int) (x3 : Int) (m : jM) : Option (Int ⊕ Int) :=
  ((jma m 91 ((12 * x1) + x3)).bind fun v1 => (if (jw v1) = (jw x2) then some (.inr x3) else some (.inl (x3 + 1))))
def jd_318_l2 (x1 : Int) (x2 : Int) (x3 : Int) (m : jM) : Option Int :=
  jlp (fun s : Int => jd_318_s2 x1 x2 s m) jfu x3
def jd_318 (p0 : Int) (p1 : Int) (m : jM) : Option Int :=
  ((jd_318_l2 p0 p1 0 m).bind fun x4 => some ((12 * p0) + x4))
def jd_319 (p0 : Int) (p1 : Int) (p2 : Int) (p3 : Int) (p4 : Int) (m : jM) : Option Int :=
  ((jd_318 p0 p1 m).bind fun v1 => ((jma m 84 p0).bind fun v3 => some ((((864 * v1) + (jd_207 p2)) + (p4 * (jd_206 v3 p2))) + p3)))
def jd_320_b66  (m : jM) : Option Int :=
  some 0
def jd_320_b67 (y0 : Int) (m : jM) : Option Int :=
  ((jbc y0).bind fun u10 => some y0)
def jd_320 (p0 : Int) (p1 : Int) (p2 : Int) (p3 : Int) (p4 : Int) (m : jM) : Option Int :=
  ((jd_314 p0 p1 m).bind fun v1 => (if (jw v1) = 0 then jd_320_b66  m else (if (jw (jd_211 p2)) = 0 then jd_320_b66  m else ((jma m 84 p0).bind fun v5 => (if (jw (jd_204 (jw p3) 0 (jw ((jd_206 v5 p2) - 1)))) = 0 then jd_320_b66  m else ((jma m 85 p0).bind fun v8 => jd_320_b67 (if (jw (jd_204 (jw p4) 0 (jw ((jd_206 v8 p2) - 1)))) = 0 then 0 else 1) m))))))
def jd_321_b50 (y0 : Int) (m : jM) : Option (Int × jM) :=
  some (y0, m)
def jd_321 (p0 : Int) (p1 : Int) (p2 : Int) (p3 : Int) (p4 : Int) (m : jM) : Option (Int × jM) :=
  ((jd_320 p0 p1 p2 p3 p4 m).bind fun v1 => ((some (jms m 76 0 (if (jw v1) = 0 then 1 else 0))).bind fun m3 => (if (jw (m3 76 0)) ≤ 0 then ((jd_319 p0 p1 p2 p3 p4 m3).bind fun v6 => ((jma m3 99 v6).bind fun v8 => jd_321_b50 v8 m3)) else jd_321_b50 0 m3)))
def jd_322_b54 (y0 : Int) (m : jM) : Option (Int × jM) :=
  ((jbc y0).bind fun u10 => some (y0, m))
def jd_322 (p0 : Int) (p1 : Int) (p2 : Int) (p3 : Int) (p4 : Int) (m : jM) : Option (Int × jM) :=
  ((jd_320 p0 p1 p2 p3 p4 m).bind fun v1 => ((some (jms m 76 0 (if (jw v1) = 0 then 1 else 0))).bind fun m3 => (if (jw (m3 76 0)) = 0 then ((jd_319 p0 p1 p2 p3 p4 m3).bind fun v6 => ((jmz m3 100 v6).bind fun v8 => jd_322_b54 (if (jw v8) = 0 then 0 else 1) m3)) else jd_322_b54 0 m3)))
def jd_323_s72 (x1 : Int) (x2 : Int) (x3 : Int) (m : jM) : Option ((Int × jM) ⊕ jM) :=
  (if 864 ≤ (jw x3) then some (.inr m) else ((jd_318 x1 x2 m).bind fun v15 => ((jma m 99 ((864 * v15) + x3)).bind fun v17 => ((jmw m 79 ((864 * (m 76 1)) + x3) v17).bind fun m19 => some (.inl ((x3 + 1), m19))))))
def jd_323_l72 (x1 : Int) (x2 : Int) (x3 : Int) (m : jM) : Option jM :=
  jlp (fun s : (Int × jM) => jd_323_s72 x1 x2 s.1 s.2) jfu (x3, m)
def jd_323_b28 (x1 : Int) (x2 : Int) (y0 : Int) (m : jM) : Option (Int × jM) :=
  ((some (jms m 76 0 y0)).bind fun m3 => (if (jw (m3 76 0)) ≤ 0 then ((jma m3 84 x1).bind fun v6 => ((jmw m3 77 (m3 76 1) v6).bind fun m8 => ((jma m8 85 x1).bind fun v10 => ((jmw m8 78 (m8 76 1) v10).bind fun m12 => ((jd_323_l72 x1 x2 0 m12).bind fun x21 => ((some (jms x21 76 1 ((x21 76 1) + 1))).bind fun m23 => some (((m23 76 1) - 1), m23))))))) else some (0, m3)))
def jd_323 (p0 : Int) (p1 : Int) (m : jM) : Option (Int × jM) :=
  ((jd_314 p0 p1 m).bind fun v1 => jd_323_b28 p0 p1 (if (jw v1) = 0 then 1 else (if (jw (m 76 1)) = 60 then 2 else 0)) m)
def jd_324_s68 (x1 : Int) (x2 : Int) (x3 : Int) (x4 : Int) (x5 : Int) (x6 : Int) (m : jM) : Option ((Int × Int) ⊕ Int) :=
  (if (jw x2) < (jw x6) then some (.inr x5) else ((some (if (jw x3) ≤ (jw (x5 + x4)) then x3 else (x5 + x4))).bind fun z7 => ((jma m 93 ((12 * x1) + x6)).bind fun v9 => some (.inl ((z7 - (8 * v9)), (x6 + 1))))))
def jd_324_l68 (x1 : Int) (x2 : Int) (x3 : Int) (x4 : Int) (x5 : Int) (x6 : Int) (m : jM) : Option Int :=
  jlp (fun s : (Int × Int) => jd_324_s68 x1 x2 x3 x4 s.1 s.2 m) jfu (x5, x6)
def jd_324_b48 (x1 : Int) (x2 : Int) (x3 : Int) (x4 : Int) (y0 : Int) (m : jM) : Option (Int × jM) :=
  ((some (jms m 76 0 y0)).bind fun m3 => (if (jw (m3 76 0)) ≤ 0 then ((jd_324_l68 x1 x2 x3 x4 (jdiv x3 2) 0 m3).bind fun x13 => some (x13, m3)) else some (0, m3)))
def jd_324 (p0 : Int) (p1 : Int) (p2 : Int) (p3 : Int) (m : jM) : Option (Int × jM) :=
  ((jd_314 p0 p1 m).bind fun v1 => jd_324_b48 p0 p1 p2 p3 (if (jw v1) = 0 then 1 else (if (jw (jd_204 (jw p2) 100 20000)) = 0 then 2 else (if (jw (jd_204 (jw p3) 50 10000)) = 0 then 2 else 0))) m)
def jd_325_b19 (x1 : Int) (x2 : Int) (x3 : Int) (m : jM) : Option (Int × jM) :=
  ((some (jms m 76 0 1)).bind fun m4 => (if (jw (m4 76 0)) ≤ 0 then ((jmw m4 131 (m4 76 86) x1).bind fun m7 => ((jmw m7 132 (m7 76 86) x2).bind fun m9 => ((jmw m9 133 (m9 76 86) x3).bind fun m11 => ((some (jms m11 76 86 ((m11 76 86) + 1))).bind fun m13 => some ((m13 76 86), m13))))) else some (0, m4)))
def jd_325_b55 (x1 : Int) (x2 : Int) (x3 : Int) (y0 : Int) (m : jM) : Option (Int × jM) :=
  ((some (jms m 76 0 y0)).bind fun m20 => (if (jw (m20 76 0)) ≤ 0 then ((jmw m20 131 (m20 76 86) x1).bind fun m23 => ((jmw m23 132 (m23 76 86) x2).bind fun m25 => ((jmw m25 133 (m25 76 86) x3).bind fun m27 => ((some (jms m27 76 86 ((m27 76 86) + 1))).bind fun m29 => some ((m29 76 86), m29))))) else some (0, m20)))
def jd_325 (p0 : Int) (p1 : Int) (p2 : Int) (m : jM) : Option (Int × jM) :=
  ((jd_314 p0 p1 m).bind fun v1 => (if (jw v1) = 0 then jd_325_b19 p0 p1 p2 m else ((jd_314 p0 p2 m).bind fun v15 => (if (jw v15) = 0 then jd_325_b19 p0 p1 p2 m else ((jma m 83 p0).bind fun v18 => jd_325_b55 p0 p1 p2 (if (jw v18) = 0 then (if (jw p1) ≤ (jw p2) then (if (jw (m 76 86)) = 8 then 3 else 0) else 2) else 2) m)))))
def jd_326_s4 (x1 : Int) (x3 : Int) (m : jM) : Option (Int ⊕ Int) :=
  ((jma m 87 x1).bind fun v1 => (if (jw v1) ≤ (jw x3) then some (.inr x3) else ((jmz m 95 ((12 * x1) + x3)).bind fun v4 => (if (jw v4) = 0 then some (.inl (x3 + 1)) else some (.inr x3)))))
def jd_326_l4 (x1 : Int) (x3 : Int) (m : jM) : Option Int :=
  jlp (fun s : Int => jd_326_s4 x1 s m) jfu x3
def jd_326 (p0 : Int) (p1 : Int) (m : jM) : Option Int :=
  ((jd_326_l4 p0 (p1 + 1) m).bind fun x7 => some x7)
def jd_328_b89 (x1 : Int) (x2 : Int) (x3 : Int) (x4 : Int) (x5 : Int) (x6 : Int) (x7 : Int) (y0 : Int) (m : jM) : Option ((Int × jM) ⊕ jM) :=
  ((jd_292 y0 m).bind fun m12 => some (.inl ((x7 + 1), m12)))
def jd_328_s21 (x1 : Int) (x2 : Int) (x3 : Int) (x4 : Int) (x5 : Int) (x6 : Int) (x7 : Int) (m : jM) : Option ((Int × jM) ⊕ jM) :=
  ((jma m 93 x6).bind fun v2 => (if (jw (5 + v2)) ≤ (jw x7) then some (.inr m) else ((jma m 94 x6).bind fun v5 => ((jmb m 89 (((24100 * x1) + v5) + x7)).bind fun v7 => (if (jw x7) = 1 then ((jma m 91 x6).bind fun v10 => jd_328_b89 x1 x2 x3 x4 x5 x6 x7 ((v10 - x4) + (m 76 91)) m) else jd_328_b89 x1 x2 x3 x4 x5 x6 x7 (jand v7 255) m)))))
def jd_328_l21 (x1 : Int) (x2 : Int) (x3 : Int) (x4 : Int) (x5 : Int) (x6 : Int) (x7 : Int) (m : jM) : Option jM :=
  jlp (fun s : (Int × jM) => jd_328_s21 x1 x2 x3 x4 x5 x6 s.1 s.2) jfu (x7, m)
def jd_328_s3 (x1 : Int) (x2 : Int) (x3 : Int) (x4 : Int) (x5 : Int) (m : jM) : Option ((Int × jM) ⊕ jM) :=
  (if (jw x3) ≤ (jw x5) then some (.inr m) else ((jd_328_l21 x1 x2 x3 x4 x5 ((12 * x1) + x5) 0 m).bind fun x14 => some (.inl ((x5 + 1), x14))))
def jd_328_l3 (x1 : Int) (x2 : Int) (x3 : Int) (x4 : Int) (x5 : Int) (m : jM) : Option jM :=
  jlp (fun s : (Int × jM) => jd_328_s3 x1 x2 x3 x4 s.1 s.2) jfu (x5, m)
def jd_328_s107 (x2 : Int) (x3 : Int) (x5 : Int) (m : jM) : Option ((Int × jM) ⊕ jM) :=
  (if (jw (x3 - x2)) ≤ (jw x5) then some (.inr m) else ((jmw m 134 ((m 76 91) + x5) 1).bind fun m19 => some (.inl ((x5 + 1), m19))))
def jd_328_l107 (x2 : Int) (x3 : Int) (x5 : Int) (m : jM) : Option jM :=
  jlp (fun s : (Int × jM) => jd_328_s107 x2 x3 s.1 s.2) jfu (x5, m)
def jd_328 (p0 : Int) (p1 : Int) (p2 : Int) (p3 : Int) (m : jM) : Option jM :=
  ((jd_328_l3 p0 p1 p2 p3 p1 m).bind fun x16 => ((jd_328_l107 p1 p2 0 x16).bind fun x21 => ((some (jms x21 76 91 ((x21 76 91) + (p2 - p1)))).bind fun m23 => some m23)))
def jd_329_s13 (x1 : Int) (x2 : Int) (x3 : Int) (x4 : Int) (x5 : Int) (x6 : Int) (m : jM) : Option ((Int × jM) ⊕ jM) :=
  (if 864 ≤ (jw x6) then some (.inr m) else ((jd_318 x1 x5 m).bind fun v3 => ((jma m 99 ((864 * v3) + x6)).bind fun v5 => ((jmw m 121 ((864 * (x5 - x3)) + x6) v5).bind fun m7 => some (.inl ((x6 + 1), m7))))))
def jd_329_l13 (x1 : Int) (x2 : Int) (x3 : Int) (x4 : Int) (x5 : Int) (x6 : Int) (m : jM) : Option jM :=
  jlp (fun s : (Int × jM) => jd_329_s13 x1 x2 x3 x4 x5 s.1 s.2) jfu (x6, m)
def jd_329_s3 (x1 : Int) (x2 : Int) (x3 : Int) (x4 : Int) (x5 : Int) (m : jM) : Option ((Int × jM) ⊕ jM) :=
  (if (jw x4) < (jw x5) then some (.inr m) else ((jd_329_l13 x1 x2 x3 x4 x5 0 m).bind fun x9 => some (.inl ((x5 + 1), x9))))
def jd_329_l3 (x1 : Int) (x2 : Int) (x3 : Int) (x4 : Int) (x5 : Int) (m : jM) : Option jM :=
  jlp (fun s : (Int × jM) => jd_329_s3 x1 x2 x3 x4 s.1 s.2) jfu (x5, m)
def jd_329_s71 (x1 : Int) (x2 : Int) (x3 : Int) (x4 : Int) (x5 : Int) (m : jM) : Option ((Int × jM) ⊕ jM) :=
  (if (jw (x4 - x3)) < (jw x5) then some (.inr m) else ((jmw m 134 ((m 76 91) + x5) 0).bind fun m14 => some (.inl ((x5 + 1), m14))))
def jd_329_l71 (x1 : Int) (x2 : Int) (x3 : Int) (x4 : Int) (x5 : Int) (m : jM) : Option jM :=
  jlp (fun s : (Int × jM) => jd_329_s71 x1 x2 x3 x4 s.1 s.2) jfu (x5, m)
def jd_329 (p0 : Int) (p1 : Int) (p2 : Int) (p3 : Int) (m : jM) : Option (Int × jM) :=
  ((jd_329_l3 p0 p1 p2 p3 p2 m).bind fun x11 => ((jd_329_l71 p0 p1 p2 p3 0 x11).bind fun x16 => ((jma x16 92 ((12 * p0) + p1)).bind fun v18 => ((jd_294 0 ((p3 - p2) + 1) (x16 76 91) v18 0 x16).bind fun q20 => ((some (jms q20.2 76 91 ((q20.2 76 91) + ((p3 - p2) + 1)))).bind fun m22 => ((jbc q20.1).bind fun u24 => some (q20.1, m22)))))))
def jd_327_b128 (x1 : Int) (x2 : Int) (x3 : Int) (x5 : Int) (m : jM) : Option ((Int × jM) ⊕ (jM ⊕ jM)) :=
  some (.inl (x5, m))
def jd_327_b112 (x1 : Int) (x2 : Int) (x3 : Int) (x4 : Int) (x5 : Int) (x8 : Int) (x9 : Int) (m : jM) : Option ((Int × jM) ⊕ (jM ⊕ jM)) :=
  ((jd_329 x1 x4 x8 x9 m).bind fun q15 => (if (jw q15.1) = 0 then some (.inr (.inl q15.2)) else jd_327_b128 x1 x2 x3 x5 q15.2))
def jd_327_b75 (x1 : Int) (x2 : Int) (x3 : Int) (x4 : Int) (x5 : Int) (x6 : Int) (x7 : Int) (x8 : Int) (y0 : Int) (m : jM) : Option ((Int × jM) ⊕ (jM ⊕ jM)) :=
  (if (jw y0) < (jw x8) then jd_327_b128 x1 x2 x3 x5 m else (if (jw x8) = (jw x6) then (if (jw y0) = (jw x7) then ((jd_328 x1 x4 x5 x6 m).bind fun m13 => jd_327_b128 x1 x2 x3 x5 m13) else jd_327_b112 x1 x2 x3 x4 x5 x8 y0 m) else jd_327_b112 x1 x2 x3 x4 x5 x8 y0 m))
def jd_327_s3 (x1 : Int) (x2 : Int) (x3 : Int) (x4 : Int) (m : jM) : Option ((Int × jM) ⊕ (jM ⊕ jM)) :=
  ((jma m 87 x1).bind fun v1 => (if (jw v1) ≤ (jw x4) then some (.inr (.inr m)) else ((jd_326 x1 x4 m).bind fun v4 => ((jma m 91 ((12 * x1) + x4)).bind fun v6 => ((some (if (jw v6) ≤ (jw x2) then x2 else v6)).bind fun z8 => jd_327_b75 x1 x2 x3 x4 v4 v6 (((v6 + v4) - x4) - 1) z8 (if (jw x3) ≤ (jw (((v6 + v4) - x4) - 1)) then x3 else (((v6 + v4) - x4) - 1)) m)))))
def jd_327_l3 (x1 : Int) (x2 : Int) (x3 : Int) (x4 : Int) (m : jM) : Option (jM ⊕ jM) :=
  jlp (fun s : (Int × jM) => jd_327_s3 x1 x2 x3 s.1 s.2) jfu (x4, m)
def jd_327 (p0 : Int) (p1 : Int) (p2 : Int) (m : jM) : Option (Int × jM) :=
  ((jd_327_l3 p0 p1 p2 0 m).bind fun x22 => jse x22 (fun y24 => some (0, y24)) (fun y25 => some (1, y25)))
def jd_330_b139 (x1 : Int) (x2 : Int) (x4 : Int) (y0 : Int) (m : jM) : Option ((Int × Int × Int) ⊕ (Int × Int)) :=
  some (.inl (x2, y0, (x4 + 1)))
def jd_330_b138 (x1 : Int) (x2 : Int) (x4 : Int) (m : jM) : Option ((Int × Int × Int) ⊕ (Int × Int)) :=
  jd_330_b139 x1 x2 x4 0 m
def jd_330_s52 (x1 : Int) (x2 : Int) (x3 : Int) (x4 : Int) (m : jM) : Option ((Int × Int × Int) ⊕ (Int × Int)) :=
  (if (jw x1) ≤ (jw x4) then some (.inr (x2, x3)) else ((jma m 133 x4).bind fun v9 => ((jma m 132 x4).bind fun v11 => (if (jw x3) = 0 then jd_330_b138 x1 (x2 + ((v9 - v11) + 1)) x4 m else ((jma m 131 x4).bind fun v14 => ((jma m 84 v14).bind fun v16 => ((jma m 131 0).bind fun v18 => ((jma m 84 v18).bind fun v20 => (if (jw v16) = (jw v20) then ((jma m 131 x4).bind fun v23 => ((jma m 85 v23).bind fun v25 => ((jma m 131 0).bind fun v27 => ((jma m 85 v27).bind fun v29 => jd_330_b139 x1 (x2 + ((v9 - v11) + 1)) x4 (if (jw v25) = (jw v29) then 1 else 0) m)))) else jd_330_b138 x1 (x2 + ((v9 - v11) + 1)) x4 m)))))))))
def jd_330_l52 (x1 : Int) (x2 : Int) (x3 : Int) (x4 : Int) (m : jM) : Option (Int × Int) :=
  jlp (fun s : (Int × Int × Int) => jd_330_s52 x1 s.1 s.2.1 s.2.2 m) jfu (x2, x3, x4)
def jd_330_b156  (m : jM) : Option (Int × jM) :=
  some ((-1), m)
def jd_330_s217 (x1 : Int) (x2 : Int) (x4 : Int) (m : jM) : Option ((Int × jM) ⊕ (jM ⊕ jM)) :=
  (if (jw x1) ≤ (jw x4) then some (.inr (.inr m)) else ((jma m 131 x4).bind fun v60 => ((jma m 132 x4).bind fun v62 => ((jma m 133 x4).bind fun v64 => ((jd_327 v60 v62 v64 m).bind fun q66 => (if (jw q66.1) = 0 then some (.inr (.inl q66.2)) else some (.inl ((x4 + 1), q66.2))))))))
def jd_330_l217 (x1 : Int) (x2 : Int) (x4 : Int) (m : jM) : Option (jM ⊕ jM) :=
  jlp (fun s : (Int × jM) => jd_330_s217 x1 x2 s.1 s.2) jfu (x4, m)
def jd_330_s282 (x2 : Int) (x5 : Int) (x6 : Int) (m : jM) : Option ((Int × jM) ⊕ jM) :=
  (if (jw x2) ≤ (jw x6) then some (.inr m) else ((jma m 91 ((12 * x5) + x6)).bind fun v79 => ((jmz m 134 v79).bind fun v81 => ((jmw m 98 ((12 * x5) + x6) v81).bind fun m83 => some (.inl ((x6 + 1), m83))))))
def jd_330_l282 (x2 : Int) (x5 : Int) (x6 : Int) (m : jM) : Option jM :=
  jlp (fun s : (Int × jM) => jd_330_s282 x2 x5 s.1 s.2) jfu (x6, m)
def jd_330  (m : jM) : Option (Int × jM) :=
  ((some (jms m 76 0 (if (jw (m 76 12)) = 8 then 1 else 0))).bind fun m1 => (if (jw (m1 76 0)) ≤ 0 then ((some (jms m1 76 86 0)).bind fun m4 => ((some (if (jw (m1 76 86)) ≤ 0 then 0 else 1)).bind fun z6 => ((jd_330_l52 (m1 76 86) 0 z6 0 m4).bind fun x33 => (if (jw x33.2) = 0 then jd_330_b156  m4 else (if (jw x33.1) ≤ 12 then ((some (jms m4 76 32 0)).bind fun m37 => ((jma m37 131 0).bind fun v39 => ((jma m37 84 v39).bind fun v41 => ((some (jms m37 76 33 v41)).bind fun m43 => ((jma m43 131 0).bind fun v45 => ((jma m43 85 v45).bind fun v47 => ((some (jms m43 76 34 v47)).bind fun m49 => ((jma m49 131 0).bind fun v51 => ((jma m49 86 v51).bind fun v53 => ((jd_295 v53 x33.1 m49).bind fun m55 => ((some (jms m55 76 91 0)).bind fun m57 => ((jd_330_l217 (m1 76 86) x33.1 0 m57).bind fun x69 => jse x69 (fun y71 => some ((-1), y71)) (fun y72 => ((jd_301 y72).bind fun q73 => (if (jw q73.1) = (-1) then ((jd_308 q73.2).bind fun q76 => ((jd_330_l282 x33.1 q76.1 0 q76.2).bind fun x85 => some (q76.1, x85))) else some ((-1), q73.2)))))))))))))))) else jd_330_b156  m4))))) else some (0, m1)))
def jd_331_b44 (y0 : Int) (m : jM) : Option (Int × jM) :=
  ((jbc y0).bind fun u10 => some (y0, m))
def jd_331 (p0 : Int) (p1 : Int) (m : jM) : Option (Int × jM) :=
  ((jd_314 p0 p1 m).bind fun v1 => ((some (jms m 76 0 (if (jw v1) = 0 then 1 else 0))).bind fun m3 => (if (jw (m3 76 0)) = 0 then ((jd_318 p0 p1 m3).bind fun v6 => ((jmz m3 98 v6).bind fun v8 => jd_331_b44 (if (jw v8) = 0 then 0 else 1) m3)) else jd_331_b44 0 m3)))
def jd_332_s22 (x1 : Int) (x2 : Int) (m : jM) : Option ((Int × jM) ⊕ jM) :=
  (if 4 ≤ (jw x2) then some (.inr m) else ((jmw m 141 x2 (-1)).bind fun m8 => some (.inl ((x2 + 1), m8))))
def jd_332_l22 (x1 : Int) (x2 : Int) (m : jM) : Option jM :=
  jlp (fun s : (Int × jM) => jd_332_s22 x1 s.1 s.2) jfu (x2, m)
def jd_332  (m : jM) : Option (Int × jM) :=
  ((some (jms m 76 0 0)).bind fun m1 => ((some (jms m1 76 12 0)).bind fun m3 => ((some (jms m3 76 86 0)).bind fun m5 => ((jd_332_l22 (m1 76 12) 0 m5).bind fun x10 => some ((m1 76 12), x10)))))
def jd_333_s0  (m : jM) : Option (jM ⊕ jM) :=
  (if (jw (m 76 5)) ≤ (jw (m 76 96)) then some (.inr m) else (if 200 ≤ (jw (m 76 96)) then some (.inr m) else ((jma m 80 (m 76 96)).bind fun v3 => (if (jw v3) = 32 then ((some (jms m 76 96 ((m 76 96) + 1))).bind fun m6 => some (.inl m6)) else some (.inr m)))))
def jd_333_l0  (m : jM) : Option jM :=
  jlp (fun s : jM => jd_333_s0  s) jfu m
def jd_333_b82 (y0 : Int) (m : jM) : Option (Int × jM) :=
  some (y0, m)
def jd_333_b81  (m : jM) : Option (Int × jM) :=
  jd_333_b82 (-1) m
def jd_333  (m : jM) : Option (Int × jM) :=
  ((jd_333_l0  m).bind fun x8 => (if (jw (x8 76 5)) ≤ (jw (x8 76 96)) then jd_333_b81  x8 else (if 200 ≤ (jw (x8 76 96)) then jd_333_b81  x8 else ((jma x8 80 (x8 76 96)).bind fun v12 => jd_333_b82 v12 x8))))
def jd_334_b16  (m : jM) : Option jM :=
  some m
def jd_334  (m : jM) : Option jM :=
  (if (jw (m 76 97)) = (-1) then ((some (jms m 76 97 (m 76 96))).bind fun m2 => jd_334_b16  m2) else jd_334_b16  m)
def jd_335 (p0 : Int) (p1 : Int) (m : jM) : Option jM :=
  ((jmw m 136 ((400 * (m 76 92)) + (m 76 102)) p0).bind fun m1 => ((jmw m1 137 ((400 * (m1 76 92)) + (m1 76 102)) p1).bind fun m3 => ((some (jms m3 76 102 ((m3 76 102) + 1))).bind fun m5 => some m5)))
def jd_336 (p0 : Int) : Int := (if (jw p0) = 8 then 3 else (if (jw p0) < 11 then (if (jw p0) = 9 then 1 else (if (jw p0) = 10 then 1 else 0)) else (if 13 < (jw p0) then (if (jw p0) = 9 then 1 else (if (jw p0) = 10 then 1 else 0)) else 2)))
def jd_337_s0 (x1 : Int) (m : jM) : Option (jM ⊕ jM) :=
  (if (jw (m 76 98)) ≤ 0 then some (.inr m) else ((jma m 138 ((m 76 98) - 1)).bind fun v2 => (if (jw (jd_336 v2)) < (jw x1) then some (.inr m) else ((some (jms m 76 98 ((m 76 98) - 1))).bind fun m5 => ((jma m5 138 (m5 76 98)).bind fun v7 => ((some (jms m5 76 101 ((m5 76 101) - (if (jw v7) = 8 then 1 else 0)))).bind fun m9 => ((jma m9 138 (m9 76 98)).bind fun v11 => ((jd_335 v11 0 m9).bind fun m13 => some (.inl m13)))))))))
def jd_337_l0 (x1 : Int) (m : jM) : Option jM :=
  jlp (fun s : jM => jd_337_s0 x1 s) jfu m
def jd_337 (p0 : Int) (m : jM) : Option jM :=
  ((jd_337_l0 p0 m).bind fun x17 => some x17)
def jd_338 (p0 : Int) (p1 : Int) (m : jM) : Option jM :=
  ((jmw m 138 (m 76 98) p0).bind fun m1 => ((jmw m1 139 (m1 76 98) p1).bind fun m3 => ((some (jms m3 76 98 ((m3 76 98) + 1))).bind fun m5 => some m5)))
def jd_339 (p0 : Int) : Int := (jd_204 (jw p0) 48 57)
def jd_340 (p0 : Int) : Int := (if (jw p0) = 77 then 16 else (if (jw p0) = 78 then (-1) else (if (jw p0) = 79 then (-1) else (if (jw p0) = 80 then (-1) else (if (jw p0) = 81 then (-1) else (if (jw p0) = 82 then (-1) else (if (jw p0) = 83 then (-1) else (if (jw p0) = 84 then (-1) else (if (jw p0) = 85 then (-1) else (if (jw p0) = 86 then (-1) else (if (jw p0) = 87 then (-1) else (if (jw p0) = 88 then (-1) else (if (jw p0) = 89 then (-1) else (if (jw p0) = 90 then (-1) else (if (jw p0) = 91 then (-1) else (if (jw p0) = 92 then (-1) else (if (jw p0) = 93 then (-1) else (if (jw p0) = 94 then (-1) else (if (jw p0) = 95 then (-1) else (if (jw p0) = 96 then (-1) else (if (jw p0) = 97 then 14 else (if (jw p0) = 98 then (-1) else (if (jw p0) = 99 then (-1) else (if (jw p0) = 100 then (-1) else (if (jw p0) = 101 then (-1) else (if (jw p0) = 102 then (-1) else (if (jw p0) = 103 then (-1) else (if (jw p0) = 104 then 4 else (if (jw p0) = 105 then 17 else (if (jw p0) = 106 then (-1) else (if (jw p0) = 107 then (-1) else (if (jw p0) = 108 then (-1) else (if (jw p0) = 109 then 15 else (if (jw p0) = 110 then 5 else (if (jw p0) = 111 then (-1) else (if (jw p0) = 112 then (-1) else (if (jw p0) = 113 then (-1) else (if (jw p0) = 114 then (-1) else (if (jw p0) = 115 then 7 else (if (jw p0) = 116 then 6 else (if (jw p0) = 117 then (-1) else (if (jw p0) = 118 then (-1) else (if (jw p0) = 119 then 3 else (if (jw p0) = 120 then 1 else (if (jw p0) = 121 then 2 else (-1))))))))))))))))))))))))))))))))))))))))))))))
def jd_341_b13  (m : jM) : Option jM :=
  ((some (jms m 76 101 ((m 76 101) + 1))).bind fun m4 => some m4)
def jd_341  (m : jM) : Option jM :=
  (if (jw (m 76 101)) = 12 then ((jd_334 m).bind fun m2 => jd_341_b13  m2) else jd_341_b13  m)
def jd_342_b117 (x1 : Int) (m : jM) : Option (Int × jM) :=
  ((jd_341 m).bind fun m5 => (if (jw (m5 76 97)) = (-1) then ((some (jms m5 76 96 ((m5 76 96) + 1))).bind fun m8 => ((jd_338 (if (jw x1) = 45 then 8 else 18) 1 m8).bind fun m10 => some (0, m10))) else some (1, m5)))
def jd_342_s16 (x2 : Int) (x3 : Int) (m : jM) : Option ((Int × Int × jM) ⊕ (jM ⊕ (Int × jM))) :=
  (if (jw (m 76 5)) ≤ (jw (m 76 96)) then some (.inr (.inr (x2, m))) else (if 200 ≤ (jw (m 76 96)) then some (.inr (.inr (x2, m))) else ((jma m 80 (m 76 96)).bind fun v39 => (if (jw (jd_339 v39)) = 0 then some (.inr (.inr (x2, m))) else (if (jw x3) = 5 then some (.inr (.inl m)) else ((jma m 80 (m 76 96)).bind fun v43 => ((some (jms m 76 96 ((m 76 96) + 1))).bind fun m45 => some (.inl ((((10 * x2) + v43) - 48), (x3 + 1), m45)))))))))
def jd_342_l16 (x2 : Int) (x3 : Int) (m : jM) : Option (jM ⊕ (Int × jM)) :=
  jlp (fun s : (Int × Int × jM) => jd_342_s16 s.1 s.2.1 s.2.2) jfu (x2, x3, m)
def jd_342  (m : jM) : Option (Int × jM) :=
  ((jd_333 m).bind fun q1 => (if (jw (jd_339 q1.1)) = 0 then (if (jw q1.1) = 45 then jd_342_b117 q1.1 q1.2 else (if (jw q1.1) = 40 then jd_342_b117 q1.1 q1.2 else (if (jw (jd_340 q1.1)) = (-1) then ((jd_334 q1.2).bind fun m16 => some (1, m16)) else ((some (jms q1.2 76 96 ((q1.2 76 96) + 1))).bind fun m18 => (if 7 < (jw (jd_340 q1.1)) then ((jd_333 m18).bind fun q21 => (if (jw q21.1) = 40 then ((jd_341 q21.2).bind fun m24 => (if (jw (m24 76 97)) = (-1) then ((some (jms m24 76 96 ((m24 76 96) + 1))).bind fun m27 => ((jd_338 (jd_340 q1.1) (if (jw (jd_340 q1.1)) = 17 then 3 else 2) m27).bind fun m29 => some (0, m29))) else some (1, m24))) else ((jd_334 q21.2).bind fun m33 => some (1, m33)))) else ((jd_335 (jd_340 q1.1) 0 m18).bind fun m35 => some (1, m35))))))) else ((jd_342_l16 0 0 q1.2).bind fun x47 => jse x47 (fun y49 => ((jd_334 y49).bind fun m51 => some (1, m51))) (fun y50 => ((jd_335 0 y50.1 y50.2).bind fun m53 => some (1, m53))))))
def jd_343_b17 (x1 : Int) (m : jM) : Option (Int × jM) :=
  ((jd_337 1 m).bind fun m4 => ((jd_338 (if (jw x1) = 43 then 9 else 10) 0 m4).bind fun m6 => ((some (jms m6 76 96 ((m6 76 96) + 1))).bind fun m8 => some (1, m8))))
def jd_343_b100 (y0 : Int) (m : jM) : Option (Int × jM) :=
  ((jd_338 y0 0 m).bind fun m16 => ((some (jms m16 76 96 ((m16 76 96) + 1))).bind fun m18 => some (1, m18)))
def jd_343_b70 (x1 : Int) (m : jM) : Option (Int × jM) :=
  ((jd_337 2 m).bind fun m14 => jd_343_b100 (if (jw x1) = 42 then 11 else (if (jw x1) = 47 then 12 else 13)) m14)
def jd_343_b159  (m : jM) : Option (Int × jM) :=
  ((some (jms m 76 103 1)).bind fun m31 => some (0, m31))
def jd_343_b265  (m : jM) : Option (Int × jM) :=
  some (0, m)
def jd_343  (m : jM) : Option (Int × jM) :=
  ((jd_333 m).bind fun q1 => (if (jw q1.1) = 43 then jd_343_b17 q1.1 q1.2 else (if (jw q1.1) = 45 then jd_343_b17 q1.1 q1.2 else (if (jw q1.1) = 42 then jd_343_b70 q1.1 q1.2 else (if (jw q1.1) = 47 then jd_343_b70 q1.1 q1.2 else (if (jw q1.1) = 37 then jd_343_b70 q1.1 q1.2 else ((jd_337 1 q1.2).bind fun m25 => ((some (if (jw (m25 76 98)) ≤ 0 then (-1) else ((m25 76 98) - 1))).bind fun z27 => (if (jw z27) = (-1) then (if (jw (m25 76 5)) ≤ (jw (m25 76 96)) then jd_343_b159  m25 else ((jd_334 m25).bind fun m33 => jd_343_b159  m33)) else ((jma m25 139 z27).bind fun v35 => ((some (if (jw v35) ≤ 1 then 41 else 44)).bind fun z37 => (if (jw q1.1) = (jw z37) then ((some (jms m25 76 96 ((m25 76 96) + 1))).bind fun m40 => (if (jw z37) = 44 then ((jma m40 139 z27).bind fun v43 => ((jmw m40 139 z27 (v43 - 1)).bind fun m45 => some (1, m45))) else ((some (jms m40 76 98 ((m40 76 98) - 1))).bind fun m47 => ((some (jms m47 76 101 ((m47 76 101) - 1))).bind fun m49 => ((jma m49 138 z27).bind fun v51 => (if (jw v51) = 18 then jd_343_b265  m49 else ((jma m49 138 z27).bind fun v54 => ((jd_335 v54 0 m49).bind fun m56 => jd_343_b265  m56)))))))) else ((jd_334 m25).bind fun m58 => some (0, m58))))))))))))))
def jd_344_s59 (x1 : Int) (m : jM) : Option ((Int × jM) ⊕ jM) :=
  (if (jw (m 76 103 % 2)) = 0 then (if (jw (m 76 97)) = (-1) then (if (jw x1) = 0 then ((jd_343 m).bind fun q19 => some (.inl (q19.1, q19.2))) else ((jd_342 m).bind fun q21 => ((some (if (jw q21.1) = 0 then 1 else 0)).bind fun z23 => some (.inl (z23, q21.2))))) else some (.inr m)) else some (.inr m))
def jd_344_l59 (x1 : Int) (m : jM) : Option jM :=
  jlp (fun s : (Int × jM) => jd_344_s59 s.1 s.2) jfu (x1, m)
def jd_344  (m : jM) : Option (Int × jM) :=
  ((some (jms m 76 0 (if (jw (m 76 92)) = 8 then 1 else 0))).bind fun m1 => (if (jw (m1 76 0)) ≤ 0 then ((some (jms m1 76 96 0)).bind fun m4 => ((some (jms m4 76 97 (-1))).bind fun m6 => ((some (jms m6 76 98 0)).bind fun m8 => ((some (jms m8 76 101 0)).bind fun m10 => ((some (jms m10 76 102 0)).bind fun m12 => ((some (jms m12 76 103 0)).bind fun m14 => ((jd_344_l59 1 m14).bind fun x27 => ((some (jms x27 76 5 0)).bind fun m29 => (if (jw (m29 76 97)) = (-1) then ((jmw m29 135 (m29 76 92) (m29 76 102)).bind fun m32 => ((some (jms m32 76 92 ((m32 76 92) + 1))).bind fun m34 => some (((m34 76 92) - 1), m34))) else some (((-1) - (m29 76 97)), m29)))))))))) else some (0, m1)))
def jd_346_b77 (y0 : Int)  : Option Int :=
  some y0
def jd_346_b94 (y0 : Int)  : Option Int :=
  some y0
def jd_346_b87   : Option Int :=
  jd_346_b94 0
def jd_346_b106 (x1 : Int) (x2 : Int)  : Option Int :=
  some (if (jw x1) ≤ (jw x2) then x2 else x1)
def jd_346 (p0 : Int) (p1 : Int) (p2 : Int)  : Option Int :=
  (if (jw p0) = 9 then some (p1 + p2) else (if (jw p0) = 10 then some (p1 - p2) else (if (jw p0) = 11 then some (p1 * p2) else (if (jw p0) = 12 then (if (jw p2) = 0 then jd_346_b77 0 else (if (jw p2) = (-1) then jd_346_b77 (-p1) else ((jnz p2).bind fun u7 => jd_346_b77 (jdiv p1 p2)))) else (if (jw p0) = 13 then (if (jw p2) = 0 then jd_346_b87 else (if (jw p2) = (-1) then jd_346_b87 else ((jnz p2).bind fun u12 => jd_346_b94 (jrem p1 p2)))) else (if (jw p0) = 14 then jd_346_b106 p1 p2 else (if (jw p0) = 15 then some (if (jw p2) ≤ (jw p1) then p2 else p1) else jd_346_b106 p1 p2)))))))
def jd_345_b350 (x1 : Int) (x2 : Int) (x3 : Int) (x4 : Int) (x5 : Int) (x6 : Int) (x7 : Int) (x8 : Int) (x9 : Int) (x10 : Int) (m : jM) : Option ((Int × Int × jM) ⊕ jM) :=
  some (.inl (x7, (x10 + 1), m))
def jd_345_b254 (x1 : Int) (x2 : Int) (x3 : Int) (x4 : Int) (x5 : Int) (x6 : Int) (x7 : Int) (x8 : Int) (x9 : Int) (x10 : Int) (y0 : Int) (y1 : Int) (m : jM) : Option ((Int × Int × jM) ⊕ jM) :=
  ((jmw m 140 y1 y0).bind fun m22 => jd_345_b350 x1 x2 x3 x4 x5 x6 x7 x8 x9 x10 m22)
def jd_345_b349 (x1 : Int) (x2 : Int) (x3 : Int) (x4 : Int) (x5 : Int) (x6 : Int) (x7 : Int) (x8 : Int) (x9 : Int) (x10 : Int) (y0 : Int) (y1 : Int) (m : jM) : Option ((Int × Int × jM) ⊕ jM) :=
  ((jmw m 140 y1 y0).bind fun m35 => jd_345_b350 x1 x2 x3 x4 x5 x6 x7 x8 x9 x10 m35)
def jd_345_b169 (x1 : Int) (x2 : Int) (x3 : Int) (x4 : Int) (x5 : Int) (x6 : Int) (x7 : Int) (x8 : Int) (x9 : Int) (x10 : Int) (y0 : Int) (y1 : Int) (m : jM) : Option ((Int × Int × jM) ⊕ jM) :=
  ((jmw m 140 y1 y0).bind fun m42 => jd_345_b350 x1 x2 x3 x4 x5 x6 (x7 + 1) x8 x9 x10 m42)
def jd_345_s34 (x1 : Int) (x2 : Int) (x3 : Int) (x4 : Int) (x5 : Int) (x6 : Int) (x8 : Int) (x9 : Int) (x7 : Int) (x10 : Int) (m : jM) : Option ((Int × Int × jM) ⊕ jM) :=
  ((jma m 135 x1).bind fun v5 => (if (jw ((400 * x1) + v5)) ≤ (jw x10) then some (.inr m) else ((jma m 136 x10).bind fun v8 => (if 8 ≤ (jw v8) then (if (jw v8) = 8 then ((jma m 140 (x7 - 1)).bind fun v12 => ((jmw m 140 (x7 - 1) (-v12)).bind fun m14 => jd_345_b350 x1 x2 x3 x4 x5 x6 x7 x8 x9 x10 m14)) else (if (jw v8) = 17 then ((jma m 140 ((x7 + (-2)) - 1)).bind fun v17 => (if (jw v17) = 0 then ((jma m 140 ((x7 + (-2)) + 1)).bind fun v20 => jd_345_b254 x1 x2 x3 x4 x5 x6 (x7 + (-2)) x8 x9 x10 v20 ((x7 + (-2)) - 1) m) else ((jma m 140 (x7 + (-2))).bind fun v24 => jd_345_b254 x1 x2 x3 x4 x5 x6 (x7 + (-2)) x8 x9 x10 v24 ((x7 + (-2)) - 1) m))) else ((jma m 140 ((x7 + (-1)) - 1)).bind fun v26 => ((jma m 140 (x7 + (-1))).bind fun v28 => (if (jw v8) = 14 then ((jd_212 x2 x3 (jd_205 ((jw x4) + (jw v26)) 0 (x8 - 1)) (jd_205 ((jw x5) + (jw v28)) 0 (x9 - 1)) m).bind fun v31 => ((jma m 79 v31).bind fun v33 => jd_345_b349 x1 x2 x3 x4 x5 x6 (x7 + (-1)) x8 x9 x10 v33 ((x7 + (-1)) - 1) m)) else ((jd_346 v8 v26 v28).bind fun v37 => jd_345_b349 x1 x2 x3 x4 x5 x6 (x7 + (-1)) x8 x9 x10 v37 ((x7 + (-1)) - 1) m)))))) else (if (jw v8) = 0 then ((jma m 137 x10).bind fun v40 => jd_345_b169 x1 x2 x3 x4 x5 x6 x7 x8 x9 x10 v40 x7 m) else (if (jw v8) = 1 then jd_345_b169 x1 x2 x3 x4 x5 x6 x7 x8 x9 x10 x4 x7 m else (if (jw v8) = 2 then jd_345_b169 x1 x2 x3 x4 x5 x6 x7 x8 x9 x10 x5 x7 m else (if (jw v8) = 3 then jd_345_b169 x1 x2 x3 x4 x5 x6 x7 x8 x9 x10 x8 x7 m else (if (jw v8) = 4 then jd_345_b169 x1 x2 x3 x4 x5 x6 x7 x8 x9 x10 x9 x7 m else (if (jw v8) = 5 then jd_345_b169 x1 x2 x3 x4 x5 x6 x7 x8 x9 x10 x3 x7 m else (if (jw v8) = 6 then jd_345_b169 x1 x2 x3 x4 x5 x6 x7 x8 x9 x10 x6 x7 m else ((jd_212 x2 x3 x4 x5 m).bind fun v50 => ((jma m 79 v50).bind fun v52 => jd_345_b169 x1 x2 x3 x4 x5 x6 x7 x8 x9 x10 v52 x7 m)))))))))))))
def jd_345_l34 (x1 : Int) (x2 : Int) (x3 : Int) (x4 : Int) (x5 : Int) (x6 : Int) (x8 : Int) (x9 : Int) (x7 : Int) (x10 : Int) (m : jM) : Option jM :=
  jlp (fun s : (Int × Int × jM) => jd_345_s34 x1 x2 x3 x4 x5 x6 x8 x9 s.1 s.2.1 s.2.2) jfu (x7, x10, m)
def jd_345 (p0 : Int) (p1 : Int) (p2 : Int) (p3 : Int) (p4 : Int) (p5 : Int) (m : jM) : Option (Int × jM) :=
  ((jma m 77 p1).bind fun v1 => ((jma m 78 p1).bind fun v3 => ((jd_345_l34 p0 p1 p2 p3 p4 p5 (jd_206 v1 p2) (jd_206 v3 p2) 0 (400 * p0) m).bind fun x54 => ((jma x54 140 0).bind fun v56 => some (v56, x54)))))
def jd_347_s110 (x1 : Int) (x2 : Int) (x3 : Int) (x4 : Int) (x5 : Int) (x6 : Int) (m : jM) : Option ((Int × jM) ⊕ jM) :=
  ((jd_213 x2 x4 m).bind fun v15 => (if (jw v15) ≤ (jw x6) then some (.inr m) else ((jnz x5).bind fun u18 => ((jnz x5).bind fun u20 => ((jd_345 x1 x2 x4 (jrem x6 x5) (jdiv x6 x5) x3 m).bind fun q22 => ((jmw q22.2 79 (((864 * (m 76 1)) + (jd_207 x4)) + x6) (jd_205 (jw q22.1) 0 255)).bind fun m24 => some (.inl ((x6 + 1), m24))))))))
def jd_347_l110 (x1 : Int) (x2 : Int) (x3 : Int) (x4 : Int) (x5 : Int) (x6 : Int) (m : jM) : Option jM :=
  jlp (fun s : (Int × jM) => jd_347_s110 x1 x2 x3 x4 x5 s.1 s.2) jfu (x6, m)
def jd_347_s88 (x1 : Int) (x2 : Int) (x3 : Int) (x4 : Int) (m : jM) : Option ((Int × jM) ⊕ jM) :=
  (if 3 ≤ (jw x4) then some (.inr m) else ((jma m 77 x2).bind fun v13 => ((jd_347_l110 x1 x2 x3 x4 (jd_206 v13 x4) 0 m).bind fun x26 => some (.inl ((x4 + 1), x26)))))
def jd_347_l88 (x1 : Int) (x2 : Int) (x3 : Int) (x4 : Int) (m : jM) : Option jM :=
  jlp (fun s : (Int × jM) => jd_347_s88 x1 x2 x3 s.1 s.2) jfu (x4, m)
def jd_347_b43 (x1 : Int) (x2 : Int) (x3 : Int) (y0 : Int) (m : jM) : Option (Int × jM) :=
  ((some (jms m 76 0 y0)).bind fun m1 => (if (jw (m1 76 0)) ≤ 0 then ((jma m1 77 x2).bind fun v4 => ((jmw m1 77 (m1 76 1) v4).bind fun m6 => ((jma m6 78 x2).bind fun v8 => ((jmw m6 78 (m6 76 1) v8).bind fun m10 => ((jd_347_l88 x1 x2 x3 0 m10).bind fun x28 => ((some (jms x28 76 1 ((x28 76 1) + 1))).bind fun m30 => some (((m30 76 1) - 1), m30))))))) else some (0, m1)))
def jd_347 (p0 : Int) (p1 : Int) (p2 : Int) (m : jM) : Option (Int × jM) :=
  jd_347_b43 p0 p1 p2 (if (jw (jd_204 (jw p0) 0 (jw ((m 76 92) - 1)))) = 0 then 1 else (if (jw (jd_210 p1 m)) = 0 then 1 else (if (jw (m 76 1)) = 60 then 2 else 0))) m
def jd_348_b245 (x1 : Int) (x2 : Int) (x3 : Int) (x5 : Int) (x6 : Int) (x7 : Int) (m : jM) : Option ((Int × Int) ⊕ Int) :=
  some (.inl (x5, (x7 + 1)))
def jd_348_s116 (x1 : Int) (x2 : Int) (x3 : Int) (x6 : Int) (x5 : Int) (x7 : Int) (m : jM) : Option ((Int × Int) ⊕ Int) :=
  ((jd_213 x1 x6 m).bind fun v6 => (if (jw v6) ≤ (jw x7) then some (.inr x5) else ((jma m 79 (((864 * x1) + (jd_207 x6)) + x7)).bind fun v9 => ((jma m 79 (((864 * x2) + (jd_207 x6)) + x7)).bind fun v11 => ((some (if 0 ≤ (jw (v9 - v11)) then (v9 - v11) else (-(v9 - v11)))).bind fun z13 => jd_348_b245 x1 x2 x3 (if (jw x3) = 3 then (if (jw z13) ≤ (jw x5) then x5 else z13) else (if (jw x3) = 0 then (x5 + z13) else (if (jw x3) = 1 then (x5 + (z13 * z13)) else (if (jw z13) = 0 then (x5 + 0) else (x5 + 1))))) x6 x7 m)))))
def jd_348_l116 (x1 : Int) (x2 : Int) (x3 : Int) (x6 : Int) (x5 : Int) (x7 : Int) (m : jM) : Option Int :=
  jlp (fun s : (Int × Int) => jd_348_s116 x1 x2 x3 x6 s.1 s.2 m) jfu (x5, x7)
def jd_348_s98 (x1 : Int) (x2 : Int) (x3 : Int) (x5 : Int) (x6 : Int) (m : jM) : Option ((Int × Int) ⊕ Int) :=
  (if (jw (if (jw x3) = 3 then 1 else 3)) ≤ (jw x6) then some (.inr x5) else ((jd_348_l116 x1 x2 x3 x6 x5 0 m).bind fun x23 => some (.inl (x23, (x6 + 1)))))
def jd_348_l98 (x1 : Int) (x2 : Int) (x3 : Int) (x5 : Int) (x6 : Int) (m : jM) : Option Int :=
  jlp (fun s : (Int × Int) => jd_348_s98 x1 x2 x3 s.1 s.2 m) jfu (x5, x6)
def jd_348_b80 (x1 : Int) (x2 : Int) (x3 : Int) (y0 : Int) (m : jM) : Option (Int × jM) :=
  ((some (jms m 76 0 y0)).bind fun m2 => (if (jw (m2 76 0)) ≤ 0 then ((jd_348_l98 x1 x2 x3 0 0 m2).bind fun x27 => some (x27, m2)) else some (0, m2)))
def jd_348_b21 (x1 : Int) (x2 : Int) (x3 : Int) (y0 : Int) (m : jM) : Option (Int × jM) :=
  (if (jw y0) = 0 then jd_348_b80 x1 x2 x3 1 m else ((jma m 77 x1).bind fun v29 => ((jma m 77 x2).bind fun v31 => (if (jw v29) = (jw v31) then ((jma m 78 x1).bind fun v34 => ((jma m 78 x2).bind fun v36 => jd_348_b80 x1 x2 x3 (if (jw v34) = (jw v36) then (if (jw (jd_204 (jw x3) 0 3)) = 0 then 2 else 0) else 2) m)) else jd_348_b80 x1 x2 x3 2 m))))
def jd_348 (p0 : Int) (p1 : Int) (p2 : Int) (m : jM) : Option (Int × jM) :=
  jd_348_b21 p0 p1 p2 (if (jw (jd_210 p0 m)) = 0 then 0 else (if (jw (jd_210 p1 m)) = 0 then 0 else 1)) m
def jd_349_s6 (x1 : Int) (x2 : Int) (x3 : Int) (x4 : Int) (x5 : Int) (m : jM) : Option ((Int × Int) ⊕ Int) :=
  (if (jw x2) ≤ (jw x5) then some (.inr x4) else ((jma m 99 (x1 + x5)).bind fun v2 => ((some (x4 + (if (jw (jdiv v2 16)) = (jw x3) then 1 else 0))).bind fun z4 => some (.inl (z4, (x5 + 1))))))
def jd_349_l6 (x1 : Int) (x2 : Int) (x3 : Int) (x4 : Int) (x5 : Int) (m : jM) : Option Int :=
  jlp (fun s : (Int × Int) => jd_349_s6 x1 x2 x3 s.1 s.2 m) jfu (x4, x5)
def jd_349 (p0 : Int) (p1 : Int) (p2 : Int) (m : jM) : Option Int :=
  ((jd_349_l6 p0 p1 p2 0 0 m).bind fun x8 => some x8)
def jd_350_b114 (x1 : Int) (x2 : Int) (x3 : Int) (x5 : Int) (y0 : Int) (y1 : Int) (m : jM) : Option ((Int × Int) ⊕ Int) :=
  some (.inl ((y1 + y0), (x5 + 1)))
def jd_350_s53 (x1 : Int) (x2 : Int) (x3 : Int) (x4 : Int) (x5 : Int) (m : jM) : Option ((Int × Int) ⊕ Int) :=
  (if 16 ≤ (jw x5) then some (.inr x4) else ((jd_318 x1 x2 m).bind fun v12 => ((jd_349 (864 * v12) x3 x5 m).bind fun v14 => ((jd_318 x1 (x2 - 1) m).bind fun v16 => ((jd_349 (864 * v16) x3 x5 m).bind fun v18 => jd_350_b114 x1 x2 x3 x5 (if 0 ≤ (jw (v14 - v18)) then (v14 - v18) else (-(v14 - v18))) x4 m)))))
def jd_350_l53 (x1 : Int) (x2 : Int) (x3 : Int) (x4 : Int) (x5 : Int) (m : jM) : Option Int :=
  jlp (fun s : (Int × Int) => jd_350_s53 x1 x2 x3 s.1 s.2 m) jfu (x4, x5)
def jd_350 (p0 : Int) (p1 : Int) (m : jM) : Option (Int × jM) :=
  ((jd_314 p0 p1 m).bind fun v1 => ((some (jms m 76 0 (if (jw v1) = 0 then 1 else 0))).bind fun m3 => (if (jw (m3 76 0)) ≤ 0 then (if (jw p1) = 0 then some (1, m3) else ((jma m3 84 p0).bind fun v7 => ((jma m3 85 p0).bind fun v9 => ((jd_350_l53 p0 p1 (v7 * v9) 0 0 m3).bind fun x22 => some ((if (jw x22) ≤ (jw (v7 * v9)) then 0 else 1), m3))))) else some (0, m3))))
def jd_351_s40 (x1 : Int) (x2 : Int) (x3 : Int) (x5 : Int) (x6 : Int) (x4 : Int) (x7 : Int) (m : jM) : Option ((Int × Int) ⊕ Int) :=
  (if (jw x6) ≤ (jw x7) then some (.inr x4) else (if (jw x4) = 0 then some (.inr x4) else ((jd_318 x1 x2 m).bind fun v10 => ((jma m 99 (((864 * v10) + (jd_207 x5)) + x7)).bind fun v12 => ((jd_318 x1 x3 m).bind fun v14 => ((jma m 99 (((864 * v14) + (jd_207 x5)) + x7)).bind fun v16 => ((some (if (jw v12) = (jw v16) then 1 else 0)).bind fun z18 => some (.inl (z18, (x7 + 1))))))))))
def jd_351_l40 (x1 : Int) (x2 : Int) (x3 : Int) (x5 : Int) (x6 : Int) (x4 : Int) (x7 : Int) (m : jM) : Option Int :=
  jlp (fun s : (Int × Int) => jd_351_s40 x1 x2 x3 x5 x6 s.1 s.2 m) jfu (x4, x7)
def jd_351_s6 (x1 : Int) (x2 : Int) (x3 : Int) (x4 : Int) (x5 : Int) (m : jM) : Option ((Int × Int) ⊕ Int) :=
  (if 3 ≤ (jw x5) then some (.inr x4) else ((jma m 84 x1).bind fun v2 => ((jma m 85 x1).bind fun v4 => ((some ((jd_206 v2 x5) * (jd_206 v4 x5))).bind fun z6 => ((jd_351_l40 x1 x2 x3 x5 z6 x4 0 m).bind fun x22 => some (.inl (x22, (x5 + 1))))))))
def jd_351_l6 (x1 : Int) (x2 : Int) (x3 : Int) (x4 : Int) (x5 : Int) (m : jM) : Option Int :=
  jlp (fun s : (Int × Int) => jd_351_s6 x1 x2 x3 s.1 s.2 m) jfu (x4, x5)
def jd_351 (p0 : Int) (p1 : Int) (p2 : Int) (m : jM) : Option Int :=
  ((jd_351_l6 p0 p1 p2 1 0 m).bind fun x24 => ((jbc x24).bind fun u26 => some x24))
def jd_352_s29 (x1 : Int) (x2 : Int) (x3 : Int) (m : jM) : Option (Int ⊕ (Int ⊕ Unit)) :=
  (if (jw x2) ≤ (jw x3) then some (.inr (.inr ())) else ((jd_351 x1 x2 x3 m).bind fun v7 => (if (jw v7) = 0 then some (.inl (x3 + 1)) else some (.inr (.inl x3)))))
def jd_352_l29 (x1 : Int) (x2 : Int) (x3 : Int) (m : jM) : Option (Int ⊕ Unit) :=
  jlp (fun s : Int => jd_352_s29 x1 x2 s m) jfu x3
def jd_352 (p0 : Int) (p1 : Int) (m : jM) : Option (Int × jM) :=
  ((jd_314 p0 p1 m).bind fun v1 => ((some (jms m 76 0 (if (jw v1) = 0 then 1 else 0))).bind fun m3 => (if (jw (m3 76 0)) ≤ 0 then ((jd_352_l29 p0 p1 0 m3).bind fun x10 => jse x10 (fun y12 => some (y12, m3)) (fun y13 => some ((-1), m3))) else some (0, m3))))
def jd_353 (p0 : Int) : Int := (if 0 ≤ (jw p0) then p0 else (-p0))
def jd_354_s166 (x4 : Int) (x5 : Int) (x6 : Int) (x7 : Int) (x8 : Int) (x9 : Int) (x10 : Int) (x11 : Int) (x12 : Int) (x13 : Int) (x14 : Int) (x15 : Int) (x16 : Int) (x17 : Int) (m : jM) : Option ((Int × Int) ⊕ Int) :=
  (if 64 ≤ (jw x17) then some (.inr x16) else ((jma m 99 ((x9 + (x5 * (x8 + (jdiv x17 8)))) + (x7 + (jrem x17 8)))).bind fun v22 => ((jma m 99 ((x10 + (x5 * (jd_205 (jw ((x8 + (jdiv x17 8)) + x14)) 0 (x6 - 1)))) + (jd_205 (jw ((x7 + (jrem x17 8)) + x15)) 0 (x5 - 1)))).bind fun v24 => some (.inl ((x16 + (jd_353 (v22 - v24))), (x17 + 1))))))
def jd_354_l166 (x4 : Int) (x5 : Int) (x6 : Int) (x7 : Int) (x8 : Int) (x9 : Int) (x10 : Int) (x11 : Int) (x12 : Int) (x13 : Int) (x14 : Int) (x15 : Int) (x16 : Int) (x17 : Int) (m : jM) : Option Int :=
  jlp (fun s : (Int × Int) => jd_354_s166 x4 x5 x6 x7 x8 x9 x10 x11 x12 x13 x14 x15 s.1 s.2 m) jfu (x16, x17)
def jd_354_b314 (x4 : Int) (x5 : Int) (x6 : Int) (x7 : Int) (x8 : Int) (x9 : Int) (x10 : Int) (x11 : Int) (x12 : Int) (x13 : Int) (x14 : Int) (x15 : Int) (x16 : Int) (y0 : Int) (m : jM) : Option ((Int × Int × Int × Int) ⊕ (Int × Int × Int)) :=
  some (.inl ((if (jw y0) = 0 then x11 else x16), (if (jw y0) = 0 then x12 else x15), (if (jw y0) = 0 then x13 else x14), (x15 + 1)))
def jd_354_s154 (x4 : Int) (x5 : Int) (x6 : Int) (x7 : Int) (x8 : Int) (x9 : Int) (x10 : Int) (x14 : Int) (x11 : Int) (x12 : Int) (x13 : Int) (x15 : Int) (m : jM) : Option ((Int × Int × Int × Int) ⊕ (Int × Int × Int)) :=
  (if 4 < (jw x15) then some (.inr (x11, x12, x13)) else ((jd_354_l166 x4 x5 x6 x7 x8 x9 x10 x11 x12 x13 x14 x15 0 0 m).bind fun x26 => jd_354_b314 x4 x5 x6 x7 x8 x9 x10 x11 x12 x13 x14 x15 x26 (if (jw x11) = (-1) then 1 else (if (jw x26) < (jw x11) then 1 else (if (jw x26) = (jw x11) then (if (jw ((jd_353 x12) + (jd_353 x13))) ≤ (jw ((jd_353 x15) + (jd_353 x14))) then 0 else 1) else 0))) m))
def jd_354_l154 (x4 : Int) (x5 : Int) (x6 : Int) (x7 : Int) (x8 : Int) (x9 : Int) (x10 : Int) (x14 : Int) (x11 : Int) (x12 : Int) (x13 : Int) (x15 : Int) (m : jM) : Option (Int × Int × Int) :=
  jlp (fun s : (Int × Int × Int × Int) => jd_354_s154 x4 x5 x6 x7 x8 x9 x10 x14 s.1 s.2.1 s.2.2.1 s.2.2.2 m) jfu (x11, x12, x13, x15)
def jd_354_s144 (x4 : Int) (x5 : Int) (x6 : Int) (x7 : Int) (x8 : Int) (x9 : Int) (x10 : Int) (x11 : Int) (x12 : Int) (x13 : Int) (x14 : Int) (m : jM) : Option ((Int × Int × Int × Int) ⊕ (Int × Int × Int)) :=
  (if 4 < (jw x14) then some (.inr (x11, x12, x13)) else ((jd_354_l154 x4 x5 x6 x7 x8 x9 x10 x14 x11 x12 x13 (-4) m).bind fun x35 => some (.inl (x35.1, x35.2.1, x35.2.2, (x14 + 1)))))
def jd_354_l144 (x4 : Int) (x5 : Int) (x6 : Int) (x7 : Int) (x8 : Int) (x9 : Int) (x10 : Int) (x11 : Int) (x12 : Int) (x13 : Int) (x14 : Int) (m : jM) : Option (Int × Int × Int) :=
  jlp (fun s : (Int × Int × Int × Int) => jd_354_s144 x4 x5 x6 x7 x8 x9 x10 s.1 s.2.1 s.2.2.1 s.2.2.2 m) jfu (x11, x12, x13, x14)
def jd_354_b371 (y0 : Int) (m : jM) : Option (Int × jM) :=
  some (y0, m)
def jd_354_b31 (x1 : Int) (x2 : Int) (x3 : Int) (x4 : Int) (m : jM) : Option (Int × jM) :=
  ((some (jms m 76 0 1)).bind fun m4 => (if (jw (m4 76 0)) ≤ 0 then ((jma m4 84 x1).bind fun v7 => ((jma m4 85 x1).bind fun v9 => ((jnz (jdiv v7 8)).bind fun u11 => ((jnz (jdiv v7 8)).bind fun u13 => ((jd_318 x1 x2 m4).bind fun v15 => ((jd_318 x1 (x2 - 1) m4).bind fun v17 => ((jd_354_l144 x4 v7 v9 (8 * (jrem x3 (jdiv v7 8))) (8 * (jdiv x3 (jdiv v7 8))) (864 * v15) (864 * v17) (-1) 0 0 (-4) m4).bind fun x37 => jd_354_b371 (if (jw x4) = 0 then x37.2.1 else (if (jw x4) = 1 then x37.2.2 else x37.1)) m4))))))) else some (0, m4)))
def jd_354_b53 (x1 : Int) (x2 : Int) (x3 : Int) (x4 : Int) (y0 : Int) (m : jM) : Option (Int × jM) :=
  ((some (jms m 76 0 y0)).bind fun m45 => (if (jw (m45 76 0)) ≤ 0 then ((jma m45 84 x1).bind fun v48 => ((jma m45 85 x1).bind fun v50 => ((jnz (jdiv v48 8)).bind fun u52 => ((jnz (jdiv v48 8)).bind fun u54 => ((jd_318 x1 x2 m45).bind fun v56 => ((jd_318 x1 (x2 - 1) m45).bind fun v58 => ((jd_354_l144 x4 v48 v50 (8 * (jrem x3 (jdiv v48 8))) (8 * (jdiv x3 (jdiv v48 8))) (864 * v56) (864 * v58) (-1) 0 0 (-4) m45).bind fun x60 => jd_354_b371 (if (jw x4) = 0 then x60.2.1 else (if (jw x4) = 1 then x60.2.2 else x60.1)) m45))))))) else some (0, m45)))
def jd_354 (p0 : Int) (p1 : Int) (p2 : Int) (p3 : Int) (m : jM) : Option (Int × jM) :=
  ((jd_314 p0 p1 m).bind fun v1 => (if (jw v1) = 0 then jd_354_b31 p0 p1 p2 p3 m else (if (jw p1) = 0 then jd_354_b31 p0 p1 p2 p3 m else ((jd_316 p0 m).bind fun v43 => jd_354_b53 p0 p1 p2 p3 (if (jw (jd_204 (jw p2) 0 (jw (v43 - 1)))) = 0 then 1 else (if (jw (jd_204 (jw p3) 0 2)) = 0 then 2 else 0)) m))))
def jd_355 (p0 : Int) : Int := (jd_204 (jw p0) 0 3)
def jd_356_b50 (x1 : Int) (x2 : Int) (x3 : Int) (x4 : Int) (y0 : Int) (m : jM) : Option jM :=
  ((some (jms m 76 0 y0)).bind fun m1 => (if (jw (m1 76 0)) ≤ 0 then ((jmw m1 141 x1 x2).bind fun m4 => ((jmw m4 142 x1 x3).bind fun m6 => ((jmw m6 143 x1 x4).bind fun m8 => ((jmw m8 144 x1 0).bind fun m10 => ((jmw m10 145 x1 0).bind fun m12 => ((jmw m12 146 x1 0).bind fun m14 => ((jmw m14 147 x1 0).bind fun m16 => ((jmw m16 148 x1 0).bind fun m18 => ((jmw m18 149 x1 (-1)).bind fun m20 => ((jmw m20 150 x1 0).bind fun m22 => some m22)))))))))) else some m1))
def jd_356 (p0 : Int) (p1 : Int) (p2 : Int) (p3 : Int) (m : jM) : Option jM :=
  jd_356_b50 p0 p1 p2 p3 (if (jw (jd_355 p0)) = 0 then 1 else (if (jw (jd_311 p1 m)) = 0 then 1 else (if (jw (jd_204 (jw p2) 1 4000)) = 0 then 2 else (if (jw (jd_204 (jw p3) 0 4000)) = 0 then 2 else 0)))) m
def jd_357_b27 (y0 : Int) (m : jM) : Option (Int × jM) :=
  ((some (jms m 76 0 y0)).bind fun m2 => some ((if (jw (m2 76 0)) ≤ 0 then 0 else 1), m2))
def jd_357 (p0 : Int) (m : jM) : Option (Int × jM) :=
  (if (jw (jd_355 p0)) = 0 then jd_357_b27 1 m else ((jma m 141 p0).bind fun v6 => jd_357_b27 (if (jw v6) = (-1) then 2 else 0) m))
def jd_358_s2 (x1 : Int) (x3 : Int) (m : jM) : Option (Int ⊕ Int) :=
  ((jmz m 95 ((12 * x1) + x3)).bind fun v1 => (if (jw v1) = 0 then some (.inl (x3 + (-1))) else some (.inr x3)))
def jd_358_l2 (x1 : Int) (x3 : Int) (m : jM) : Option Int :=
  jlp (fun s : Int => jd_358_s2 x1 s m) jfu x3
def jd_358 (p0 : Int) (p1 : Int) (m : jM) : Option Int :=
  ((jd_358_l2 p0 p1 m).bind fun x4 => some x4)
def jd_359_s219 (x1 : Int) (x4 : Int) (x5 : Int) (m : jM) : Option ((Int × jM) ⊕ jM) :=
  (if (jw x4) < (jw x5) then some (.inr m) else ((jma m 150 x1).bind fun v52 => ((jd_278 x5 (if (jw (jand (jshr v52 x5) 1)) = 1 then 1 else 0) m).bind fun m54 => some (.inl ((x5 + 1), m54)))))
def jd_359_l219 (x1 : Int) (x4 : Int) (x5 : Int) (m : jM) : Option jM :=
  jlp (fun s : (Int × jM) => jd_359_s219 x1 x4 s.1 s.2) jfu (x5, m)
def jd_359_s261 (x1 : Int) (x4 : Int) (x5 : Int) (m : jM) : Option ((Int × jM) ⊕ jM) :=
  (if 864 ≤ (jw x5) then some (.inr m) else ((jma m 109 ((864 * x4) + x5)).bind fun v61 => ((jmw m 151 ((864 * x1) + x5) v61).bind fun m63 => some (.inl ((x5 + 1), m63)))))
def jd_359_l261 (x1 : Int) (x4 : Int) (x5 : Int) (m : jM) : Option jM :=
  jlp (fun s : (Int × jM) => jd_359_s261 x1 x4 s.1 s.2) jfu (x5, m)
def jd_359_b111 (x1 : Int) (x2 : Int) (m : jM) : Option (Int × jM) :=
  ((jma m 146 x1).bind fun v26 => ((jma m 87 x2).bind fun v28 => (if (jw v26) = (jw v28) then some ((-3), m) else ((jmz m 147 x1).bind fun v31 => (if (jw v31) = 0 then some ((-2), m) else ((jma m 146 x1).bind fun v34 => ((jd_318 x2 v34 m).bind fun v36 => ((jma m 94 v36).bind fun v38 => ((jma m 93 v36).bind fun v40 => ((jma m 144 x1).bind fun v42 => (if (jw ((v38 + 5) + v40)) ≤ (jw v42) then ((jd_309 x2 m).bind fun m45 => ((jd_358 x2 (v36 - (12 * x2)) m45).bind fun v47 => ((some (jms m45 76 36 v47)).bind fun m49 => ((jd_359_l219 x1 (v36 - (12 * x2)) (m49 76 36) m49).bind fun x58 => ((jd_359_l261 x1 (v36 - (12 * x2)) 0 x58).bind fun x65 => ((jma x65 146 x1).bind fun v67 => ((jmw x65 149 x1 v67).bind fun m69 => ((jma m69 146 x1).bind fun v71 => ((jmw m69 146 x1 (v71 + 1)).bind fun m73 => ((jma m73 149 x1).bind fun v75 => some (v75, m73))))))))))) else ((jma m 148 x1).bind fun v77 => ((jmw m 148 x1 (v77 + 1)).bind fun m79 => some ((-1), m79))))))))))))))
def jd_359_b104 (x1 : Int) (x2 : Int) (m : jM) : Option (Int × jM) :=
  ((jmw m 147 x1 1).bind fun m24 => jd_359_b111 x1 x2 m24)
def jd_359_b66 (x1 : Int) (x2 : Int) (y0 : Int) (y1 : Int) (m : jM) : Option (Int × jM) :=
  ((jmw m 144 y1 y0).bind fun m15 => ((jma m15 144 x1).bind fun v17 => ((jma m15 145 x1).bind fun v19 => ((jma m15 143 x1).bind fun v21 => (if (jw v21) ≤ (jw (v17 - v19)) then jd_359_b104 x1 x2 m15 else ((jma m15 144 x1).bind fun v81 => ((jma m15 88 x2).bind fun v83 => (if (jw v81) = (jw v83) then jd_359_b104 x1 x2 m15 else jd_359_b111 x1 x2 m15))))))))
def jd_359 (p0 : Int) (m : jM) : Option (Int × jM) :=
  ((jd_357 p0 m).bind fun q1 => (if (jw q1.1) = 0 then ((jma q1.2 141 p0).bind fun v4 => ((jma q1.2 144 p0).bind fun v6 => ((jma q1.2 142 p0).bind fun v8 => ((jma q1.2 88 v4).bind fun v10 => (if (jw v10) ≤ (jw (v6 + v8)) then ((jma q1.2 88 v4).bind fun v13 => jd_359_b66 p0 v4 v13 p0 q1.2) else ((jma q1.2 144 p0).bind fun v86 => ((jma q1.2 142 p0).bind fun v88 => jd_359_b66 p0 v4 (v86 + v88) p0 q1.2))))))) else some (0, q1.2)))
def jd_360 (p0 : Int) (p1 : Int) (m : jM) : Option jM :=
  ((jd_357 p0 m).bind fun q1 => (if (jw q1.1) = 0 then ((jmw q1.2 150 p0 p1).bind fun m4 => some m4) else some q1.2))
def jd_361_b51 (x1 : Int) (x2 : Int) (y0 : Int) (m : jM) : Option jM :=
  ((some (jms m 76 0 y0)).bind fun m2 => (if (jw (m2 76 0)) ≤ 0 then ((jma m2 141 x1).bind fun v5 => ((jd_318 v5 x2 m2).bind fun v7 => ((jd_358 v5 (v7 - (12 * v5)) m2).bind fun v9 => ((jma m2 94 ((12 * v5) + v9)).bind fun v11 => ((jmw m2 144 x1 v11).bind fun m13 => ((jma m13 144 x1).bind fun v15 => ((jmw m13 145 x1 v15).bind fun m17 => ((jmw m17 146 x1 x2).bind fun m19 => ((jmw m19 147 x1 0).bind fun m21 => some m21))))))))) else some m2))
def jd_361_b32 (x1 : Int) (x2 : Int) (m : jM) : Option jM :=
  jd_361_b51 x1 x2 1 m
def jd_361_b36 (x1 : Int) (x2 : Int) (m : jM) : Option jM :=
  ((jma m 141 x1).bind fun v26 => jd_361_b51 x1 x2 (if (jw v26) = (-1) then 2 else 0) m)
def jd_361 (p0 : Int) (p1 : Int) (m : jM) : Option jM :=
  (if (jw (jd_355 p0)) = 0 then jd_361_b32 p0 p1 m else ((jma m 141 p0).bind fun v23 => (if (jw v23) = (-1) then jd_361_b36 p0 p1 m else ((jma m 141 p0).bind fun v30 => ((jd_314 v30 p1 m).bind fun v32 => (if (jw v32) = 0 then jd_361_b32 p0 p1 m else jd_361_b36 p0 p1 m))))))
def jd_362_b43 (x1 : Int) (x2 : Int) (y0 : Int) (m : jM) : Option (Int × jM) :=
  ((some (jms m 76 0 y0)).bind fun m2 => (if (jw (m2 76 0)) ≤ 0 then (if (jw x2) = 0 then ((jma m2 141 x1).bind fun v6 => some (v6, m2)) else (if (jw x2) = 1 then ((jma m2 144 x1).bind fun v9 => some (v9, m2)) else (if (jw x2) = 2 then ((jma m2 146 x1).bind fun v12 => some (v12, m2)) else (if (jw x2) = 3 then ((jmz m2 147 x1).bind fun v15 => some ((if (jw v15) = 0 then 0 else 1), m2)) else (if (jw x2) = 4 then ((jma m2 148 x1).bind fun v20 => some (v20, m2)) else ((jma m2 149 x1).bind fun v22 => some (v22, m2))))))) else some (0, m2)))
def jd_362 (p0 : Int) (p1 : Int) (m : jM) : Option (Int × jM) :=
  (if (jw (jd_355 p0)) = 0 then jd_362_b43 p0 p1 1 m else (if (jw (jd_204 (jw p1) 0 5)) = 0 then jd_362_b43 p0 p1 2 m else ((jma m 141 p0).bind fun v25 => jd_362_b43 p0 p1 (if (jw v25) = (-1) then 3 else 0) m)))
def jd_363_b177 (y0 : Int) (m : jM) : Option (Int × jM) :=
  some (y0, m)
def jd_363_b131 (x1 : Int) (x2 : Int) (x3 : Int) (x4 : Int) (x5 : Int) (y0 : Int) (m : jM) : Option (Int × jM) :=
  ((some (jms m 76 0 y0)).bind fun m8 => (if (jw (m8 76 0)) ≤ 0 then ((jma m8 84 x5).bind fun v11 => ((jma m8 151 ((((864 * x1) + (jd_207 x2)) + (x4 * (jd_206 v11 x2))) + x3)).bind fun v13 => jd_363_b177 v13 m8)) else jd_363_b177 0 m8))
def jd_363_b98 (x1 : Int) (x2 : Int) (x3 : Int) (x4 : Int) (x5 : Int) (y0 : Int) (m : jM) : Option (Int × jM) :=
  (if (jw y0) = 0 then jd_363_b131 x1 x2 x3 x4 x5 1 m else (if (jw x5) = (-1) then jd_363_b131 x1 x2 x3 x4 x5 2 m else ((jma m 149 x1).bind fun v16 => jd_363_b131 x1 x2 x3 x4 x5 (if (jw v16) = (-1) then 2 else 0) m)))
def jd_363_b20 (x1 : Int) (x2 : Int) (x3 : Int) (x4 : Int) (y0 : Int) (m : jM) : Option (Int × jM) :=
  ((some (jms m 76 0 y0)).bind fun m1 => (if (jw (m1 76 0)) ≤ 0 then ((jma m1 141 x1).bind fun v4 => (if (jw v4) = (-1) then jd_363_b98 x1 x2 x3 x4 v4 1 m1 else ((jma m1 84 v4).bind fun v20 => (if (jw (jd_204 (jw x3) 0 (jw ((jd_206 v20 x2) - 1)))) = 0 then jd_363_b98 x1 x2 x3 x4 v4 0 m1 else ((jma m1 85 v4).bind fun v23 => jd_363_b98 x1 x2 x3 x4 v4 (if (jw (jd_204 (jw x4) 0 (jw ((jd_206 v23 x2) - 1)))) = 0 then 0 else 1) m1))))) else some (0, m1)))
def jd_363 (p0 : Int) (p1 : Int) (p2 : Int) (p3 : Int) (m : jM) : Option (Int × jM) :=
  jd_363_b20 p0 p1 p2 p3 (if (jw (jd_355 p0)) = 0 then 1 else (if (jw (jd_211 p1)) = 0 then 1 else 0)) m
def jd_364 (p0 : Int) (m : jM) : Option (Int × jM) :=
  ((some (jms m 76 0 (if (jw (jd_204 (jw p0) 0 5)) = 0 then 1 else 0))).bind fun m1 => (if (jw p0) = 0 then some ((m1 76 1), m1) else (if (jw p0) = 1 then some ((m1 76 12), m1) else (if (jw p0) = 2 then some ((m1 76 92), m1) else (if (jw p0) = 3 then some ((m1 76 7), m1) else (if (jw p0) = 4 then some ((m1 76 86), m1) else (if (jw p0) = 5 then some ((m1 76 5), m1) else some (0, m1))))))))
def jd_0 (this : Nat)  (h : jH) : Option jH :=
  ((jpr h this 0 0 none).bind fun h1 => ((jpi h1 this 0 1 0).bind fun h3 => ((jpi h3 this 0 2 0).bind fun h5 => ((jpi h5 this 0 3 0).bind fun h7 => some h7))))
def jd_1 (this : Nat) (p0 : Option Nat) (p1 : Int) (p2 : Int) (h : jH) : Option jH :=
  ((jpr h this 0 0 p0).bind fun h1 => ((jpi h1 this 0 1 (8 * p1)).bind fun h3 => ((jpi h3 this 0 2 (8 * (p1 + p2))).bind fun h5 => ((jpi h5 this 0 3 0).bind fun h7 => some h7))))
def jd_4_s24 (this : Nat) (x1 : Int) (x2 : Int) (x3 : Int) (h : jH) : Option ((Int × Int × jH) ⊕ (Int × jH)) :=
  (if (jw x1) ≤ (jw x3) then some (.inr (x2, h)) else ((jgr h this 0 0).bind fun r7 => ((jgi h this 0 1).bind fun v9 => ((r7).bind fun a11 => ((jab h a11 (jshr v9 3)).bind fun v13 => ((jgi h this 0 1).bind fun v15 => ((some ((2 * x2) + (jand (jshr v13 (7 - (jand v15 7))) 1))).bind fun z17 => ((jgi h this 0 1).bind fun v19 => ((jpi h this 0 1 (v19 + 1)).bind fun h21 => some (.inl (z17, (x3 + 1), h21)))))))))))
def jd_4_l24 (this : Nat) (x1 : Int) (x2 : Int) (x3 : Int) (h : jH) : Option (Int × jH) :=
  jlp (fun s : (Int × Int × jH) => jd_4_s24 this x1 s.1 s.2.1 s.2.2) jfu (x2, x3, h)
def jd_4 (this : Nat) (p0 : Int) (h : jH) : Option (Int × jH) :=
  ((jgi h this 0 2).bind fun v1 => ((jgi h this 0 1).bind fun v3 => (if (jw p0) ≤ (jw (v1 - v3)) then ((jd_4_l24 this p0 0 0 h).bind fun x23 => some (x23.1, x23.2)) else ((jpi h this 0 3 1).bind fun h25 => some ((-1), h25)))))
def jd_2_s2 (this : Nat) (x1 : Int) (h : jH) : Option ((Int × jH) ⊕ (Int × jH)) :=
  ((jgi h this 0 1).bind fun v1 => ((jgi h this 0 2).bind fun v3 => (if (jw v3) ≤ (jw v1) then some (.inr (x1, h)) else (if 15 ≤ (jw x1) then some (.inr (x1, h)) else ((jgr h this 0 0).bind fun r7 => ((jgi h this 0 1).bind fun v9 => ((r7).bind fun a11 => ((jab h a11 (jshr v9 3)).bind fun v13 => ((jgi h this 0 1).bind fun v15 => (if (jw (jand (jshr v13 (7 - (jand v15 7))) 1)) = 0 then ((jgi h this 0 1).bind fun v18 => ((jpi h this 0 1 (v18 + 1)).bind fun h20 => some (.inl ((x1 + 1), h20)))) else some (.inr (x1, h))))))))))))
def jd_2_l2 (this : Nat) (x1 : Int) (h : jH) : Option (Int × jH) :=
  jlp (fun s : (Int × jH) => jd_2_s2 this s.1 s.2) jfu (x1, h)
def jd_2 (this : Nat)  (h : jH) : Option (Int × jH) :=
  ((jd_2_l2 this 0 h).bind fun x22 => (if (jw x22.1) = 15 then ((jpi x22.2 this 0 3 7).bind fun h25 => some ((-1), h25)) else ((jck x22.2 this 0).bind fun u27 => ((jd_4 this (x22.1 + 1) x22.2).bind fun q29 => some ((q29.1 - 1), q29.2)))))
def jd_3 (this : Nat)  (h : jH) : Option (Int × jH) :=
  ((jck h this 0).bind fun u1 => ((jd_4 this 8 h).bind fun q3 => some (q3.1, q3.2)))
def jd_5_b33 (this : Nat) (y0 : Int) (h : jH) : Option (Int × jH) :=
  ((jbc y0).bind fun u6 => some (y0, h))
def jd_5 (this : Nat)  (h : jH) : Option (Int × jH) :=
  ((jgi h this 0 2).bind fun v1 => ((jgi h this 0 1).bind fun v3 => (if (jw (v1 - v3)) = 0 then jd_5_b33 this 1 h else (if 8 ≤ (jw (v1 - v3)) then jd_5_b33 this 0 h else ((jck h this 0).bind fun u9 => ((jd_4 this (v1 - v3) h).bind fun q11 => jd_5_b33 this (if (jw q11.1) = 0 then 1 else 0) q11.2))))))
def jd_6_b16 (this : Nat)  (h : jH) : Option jH :=
  ((jpi h this 0 1 0).bind fun h8 => some h8)
def jd_6 (this : Nat)  (h : jH) : Option jH :=
  ((jgr h this 0 0).bind fun r1 => (if r1 = none then ((jna h 1 4000).bind fun n4 => ((jpr n4.2 this 0 0 (some n4.1)).bind fun h6 => jd_6_b16 this  h6)) else jd_6_b16 this  h))
def jd_7 (this : Nat)  (h : jH) : Option jH :=
  ((jpr h this 0 0 none).bind fun h1 => ((jpi h1 this 0 1 0).bind fun h3 => some h3))
def jd_8_b77 (this : Nat) (x1 : Int) (x3 : Int) (x4 : Int) (x5 : Int) (y0 : Int) (h : jH) : Option ((Int × jH) ⊕ jH) :=
  ((jgr h this 0 0).bind fun r15 => ((jgi h this 0 1).bind fun v17 => ((r15).bind fun a19 => ((jta h a19 1 (jshr v17 3) (jwb (jor y0 (jshl x4 x5)))).bind fun h21 => ((jgi h21 this 0 1).bind fun v23 => ((jpi h21 this 0 1 (v23 + 1)).bind fun h25 => some (.inl ((x3 + (-1)), h25))))))))
def jd_8_s22 (this : Nat) (x1 : Int) (x3 : Int) (h : jH) : Option ((Int × jH) ⊕ jH) :=
  (if (jw x3) < 0 then some (.inr h) else ((jgi h this 0 1).bind fun v9 => (if 32000 ≤ (jw v9) then some (.inr h) else ((jgi h this 0 1).bind fun v12 => (if (jw (7 - (jand v12 7))) = 7 then jd_8_b77 this x1 x3 (jand (jshr x1 x3) 1) (7 - (jand v12 7)) 0 h else ((jgr h this 0 0).bind fun r27 => ((jgi h this 0 1).bind fun v29 => ((r27).bind fun a31 => ((jab h a31 (jshr v29 3)).bind fun v33 => jd_8_b77 this x1 x3 (jand (jshr x1 x3) 1) (7 - (jand v12 7)) v33 h)))))))))
def jd_8_l22 (this : Nat) (x1 : Int) (x3 : Int) (h : jH) : Option jH :=
  jlp (fun s : (Int × jH) => jd_8_s22 this x1 s.1 s.2) jfu (x3, h)
def jd_8 (this : Nat) (p0 : Int) (p1 : Int) (h : jH) : Option jH :=
  ((jgr h this 0 0).bind fun r1 => (if r1 = none then ((jgi h this 0 1).bind fun v4 => ((jpi h this 0 1 (v4 + p1)).bind fun h6 => some h6)) else ((jd_8_l22 this p0 (p1 - 1) h).bind fun x35 => some x35)))
def jd_11_s2 (x0 : Int) (x1 : Int)  : Option (Int ⊕ Int) :=
  (if 30 ≤ (jw x1) then some (.inr x1) else (if (jw (jshr (x0 + 1) x1)) ≤ 0 then some (.inr x1) else some (.inl (x1 + 1))))
def jd_11_l2 (x0 : Int) (x1 : Int)  : Option Int :=
  jlp (fun s : Int => jd_11_s2 x0 s ) jfu x1
def jd_11 (p0 : Int)  : Option Int :=
  ((jd_11_l2 p0 1 ).bind fun x3 => some ((2 * x3) - 1))
def jd_9 (this : Nat) (p0 : Int) (h : jH) : Option jH :=
  ((jd_11 p0).bind fun v1 => ((jck h this 0).bind fun u3 => ((jd_8 this (p0 + 1) v1 h).bind fun h5 => some h5)))
def jd_10 (this : Nat)  (h : jH) : Option Int :=
  ((jgi h this 0 1).bind fun v1 => some (jdiv (v1 + 7) 8))
def jd_12 (p0 : Int) : Int := (if (jw p0) ≤ 0 then ((-2) * p0) else ((2 * p0) - 1))
def jd_13 (p0 : Int)  : Option Int :=
  ((jd_11 (jd_12 p0)).bind fun v1 => some v1)
def jd_14 (p0 : Int) : Int := (if (jw (jand p0 1)) = 1 then (jdiv (p0 + 1) 2) else (-(jdiv p0 2)))
def jd_72 (this : Nat)  (h : jH) : Option jH :=
  ((jpi h this 5 0 0).bind fun h1 => ((jpi h1 this 5 1 1).bind fun h3 => ((jpr h3 this 5 2 none).bind fun h5 => ((jpr h5 this 5 3 none).bind fun h7 => ((jpr h7 this 5 4 none).bind fun h9 => ((jpi h9 this 5 5 0).bind fun h11 => ((jpi h11 this 5 6 0).bind fun h13 => ((jna h13 0 96).bind fun n15 => ((jpr n15.2 this 5 7 (some n15.1)).bind fun h17 => ((jna h17 0 96).bind fun n19 => ((jpr n19.2 this 5 8 (some n19.1)).bind fun h21 => ((jna h21 0 96).bind fun n23 => ((jpr n23.2 this 5 9 (some n23.1)).bind fun h25 => ((jna h25 0 96).bind fun n27 => ((jpr n27.2 this 5 10 (some n27.1)).bind fun h29 => ((jna h29 0 4).bind fun n31 => ((jpr n31.2 this 5 11 (some n31.1)).bind fun h33 => ((jna h33 0 4).bind fun n35 => ((jpr n35.2 this 5 12 (some n35.1)).bind fun h37 => ((jna h37 0 16).bind fun n39 => ((jpr n39.2 this 5 13 (some n39.1)).bind fun h41 => ((jna h41 0 16).bind fun n43 => ((jpr n43.2 this 5 14 (some n43.1)).bind fun h45 => ((jna h45 0 16).bind fun n47 => ((jpr n47.2 this 5 15 (some n47.1)).bind fun h49 => some h49)))))))))))))))))))))))))
