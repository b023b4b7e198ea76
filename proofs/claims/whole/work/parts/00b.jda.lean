def jd_203  (m : jM) : Int := (m 76 0)
def jd_204 (p0 : Int) (p1 : Int) (p2 : Int) : Int := (if (jwl p0) < (jwl p1) then 0 else (if (jwl p2) < (jwl p0) then 0 else 1))
def jd_205 (p0 : Int) (p1 : Int) (p2 : Int) : Int := (if (jw p1) ≤ (jwl p0) then (if (jwl p0) ≤ (jw p2) then p0 else p2) else p1)
def jd_206 (p0 : Int) (p1 : Int) : Int := (if (jw p1) = 0 then p0 else (jdiv p0 2))
def jd_207 (p0 : Int) : Int := (if (jw p0) = 0 then 0 else (if (jw p0) = 1 then 576 else 720))
def jd_208 (p0 : Int) : Int := (if (jw p0) = 8 then 1 else (if (jw p0) = 16 then 1 else (if (jw p0) = 24 then 1 else 0)))
def jd_209 (p0 : Int) : Int := (jshr p0 1)
def jd_210 (p0 : Int) (m : jM) : Int := (jd_204 (jw p0) 0 (jw ((m 76 1) - 1)))
def jd_211 (p0 : Int) : Int := (jd_204 (jw p0) 0 2)
def jd_212 (p0 : Int) (p1 : Int) (p2 : Int) (p3 : Int) (m : jM) : Option Int :=
  ((jma m 77 p0).bind fun v1 => some ((((864 * p0) + (jd_207 p1)) + (p3 * (jd_206 v1 p1))) + p2))
def jd_213 (p0 : Int) (p1 : Int) (m : jM) : Option Int :=
  ((jma m 77 p0).bind fun v1 => ((jma m 78 p0).bind fun v3 => some ((jd_206 v1 p1) * (jd_206 v3 p1))))
def jd_214_s151 (x3 : Int) (x4 : Int) (x5 : Int) (x7 : Int) (x8 : Int) (x9 : Int) (m : jM) : Option ((Int × jM) ⊕ jM) :=
  ((jd_213 (m 76 1) x7 m).bind fun v9 => (if (jw v9) ≤ (jw x9) then some (.inr m) else ((jmw m 79 (((864 * (m 76 1)) + (jd_207 x7)) + x9) x8).bind fun m12 => some (.inl ((x9 + 1), m12)))))
def jd_214_l151 (x3 : Int) (x4 : Int) (x5 : Int) (x7 : Int) (x8 : Int) (x9 : Int) (m : jM) : Option jM :=
  jlp (fun s : (Int × jM) => jd_214_s151 x3 x4 x5 x7 x8 s.1 s.2) jfu (x9, m)
def jd_214_b146 (x3 : Int) (x4 : Int) (x5 : Int) (x7 : Int) (y0 : Int) (m : jM) : Option ((Int × jM) ⊕ jM) :=
  ((jd_214_l151 x3 x4 x5 x7 y0 0 m).bind fun x14 => some (.inl ((x7 + 1), x14)))
def jd_214_s118 (x3 : Int) (x4 : Int) (x5 : Int) (x7 : Int) (m : jM) : Option ((Int × jM) ⊕ jM) :=
  (if 3 ≤ (jw x7) then some (.inr m) else jd_214_b146 x3 x4 x5 x7 (if (jw x7) = 0 then x3 else (if (jw x7) = 1 then x4 else x5)) m)
def jd_214_l118 (x3 : Int) (x4 : Int) (x5 : Int) (x7 : Int) (m : jM) : Option jM :=
  jlp (fun s : (Int × jM) => jd_214_s118 x3 x4 x5 s.1 s.2) jfu (x7, m)
def jd_214_b83 (x1 : Int) (x2 : Int) (x3 : Int) (x4 : Int) (x5 : Int) (y0 : Int) (m : jM) : Option (Int × jM) :=
  ((some (jms m 76 0 y0)).bind fun m1 => (if (jw (m1 76 0)) ≤ 0 then ((jmw m1 77 (m1 76 1) x1).bind fun m4 => ((jmw m4 78 (m4 76 1) x2).bind fun m6 => ((jd_214_l118 x3 x4 x5 0 m6).bind fun x19 => ((some (jms x19 76 1 ((x19 76 1) + 1))).bind fun m21 => some (((m21 76 1) - 1), m21))))) else some (0, m1)))
def jd_214_b57 (x1 : Int) (x2 : Int) (x3 : Int) (x4 : Int) (x5 : Int) (y0 : Int) (m : jM) : Option (Int × jM) :=
  jd_214_b83 x1 x2 x3 x4 x5 (if (jw y0) = 0 then 1 else (if (jw (m 76 1)) = 60 then 2 else 0)) m
def jd_214 (p0 : Int) (p1 : Int) (p2 : Int) (p3 : Int) (p4 : Int) (m : jM) : Option (Int × jM) :=
  jd_214_b57 p0 p1 p2 p3 p4 (if (jw (jd_208 p0)) = 0 then 0 else (if (jw (jd_208 p1)) = 0 then 0 else (if (jw (jd_204 (jw p2) 0 255)) = 0 then 0 else (if (jw (jd_204 (jw p3) 0 255)) = 0 then 0 else (if (jw (jd_204 (jw p4) 0 255)) = 0 then 0 else 1))))) m
def jd_215_b162 (x1 : Int) (x2 : Int) (x3 : Int) (x4 : Int) (x5 : Int) (x6 : Int) (x7 : Int) (x8 : Int) (x9 : Int) (x10 : Int) (m : jM) : Option ((Int × Int × jM) ⊕ (Int × jM)) :=
  some (.inl (x8, (x10 + 1), m))
def jd_215_s84 (x1 : Int) (x2 : Int) (x3 : Int) (x4 : Int) (x5 : Int) (x6 : Int) (x7 : Int) (x9 : Int) (x8 : Int) (x10 : Int) (m : jM) : Option ((Int × Int × jM) ⊕ (Int × jM)) :=
  ((jma m 77 x1).bind fun v7 => (if (jw (jd_206 v7 x2)) ≤ (jw x10) then some (.inr (x8, m)) else (if (jw x10) < (jw x3) then jd_215_b162 x1 x2 x3 x4 x5 x6 x7 x8 x9 x10 m else (if (jwl ((jw x3) + (jw x5))) ≤ (jw x10) then jd_215_b162 x1 x2 x3 x4 x5 x6 x7 x8 x9 x10 m else (if (jw x9) < (jw x4) then jd_215_b162 x1 x2 x3 x4 x5 x6 x7 x8 x9 x10 m else (if (jw x9) < (jwl ((jw x4) + (jw x6))) then ((jd_212 x1 x2 x10 x9 m).bind fun v14 => ((jmw m 79 v14 x7).bind fun m16 => jd_215_b162 x1 x2 x3 x4 x5 x6 x7 (x8 + 1) x9 x10 m16)) else jd_215_b162 x1 x2 x3 x4 x5 x6 x7 x8 x9 x10 m))))))
def jd_215_l84 (x1 : Int) (x2 : Int) (x3 : Int) (x4 : Int) (x5 : Int) (x6 : Int) (x7 : Int) (x9 : Int) (x8 : Int) (x10 : Int) (m : jM) : Option (Int × jM) :=
  jlp (fun s : (Int × Int × jM) => jd_215_s84 x1 x2 x3 x4 x5 x6 x7 x9 s.1 s.2.1 s.2.2) jfu (x8, x10, m)
def jd_215_s66 (x1 : Int) (x2 : Int) (x3 : Int) (x4 : Int) (x5 : Int) (x6 : Int) (x7 : Int) (x8 : Int) (x9 : Int) (m : jM) : Option ((Int × Int × jM) ⊕ (Int × jM)) :=
  ((jma m 78 x1).bind fun v4 => (if (jw (jd_206 v4 x2)) ≤ (jw x9) then some (.inr (x8, m)) else ((jd_215_l84 x1 x2 x3 x4 x5 x6 x7 x9 x8 0 m).bind fun x18 => some (.inl (x18.1, (x9 + 1), x18.2)))))
def jd_215_l66 (x1 : Int) (x2 : Int) (x3 : Int) (x4 : Int) (x5 : Int) (x6 : Int) (x7 : Int) (x8 : Int) (x9 : Int) (m : jM) : Option (Int × jM) :=
  jlp (fun s : (Int × Int × jM) => jd_215_s66 x1 x2 x3 x4 x5 x6 x7 s.1 s.2.1 s.2.2) jfu (x8, x9, m)
def jd_215_b48 (x1 : Int) (x2 : Int) (x3 : Int) (x4 : Int) (x5 : Int) (x6 : Int) (x7 : Int) (y0 : Int) (m : jM) : Option (Int × jM) :=
  ((some (jms m 76 0 y0)).bind fun m1 => (if (jw (m1 76 0)) ≤ 0 then ((jd_215_l66 x1 x2 x3 x4 x5 x6 x7 0 0 m1).bind fun x20 => some (x20.1, x20.2)) else some (0, m1)))
def jd_215 (p0 : Int) (p1 : Int) (p2 : Int) (p3 : Int) (p4 : Int) (p5 : Int) (p6 : Int) (m : jM) : Option (Int × jM) :=
  jd_215_b48 p0 p1 p2 p3 p4 p5 p6 (if (jw (jd_210 p0 m)) = 0 then 1 else (if (jw (jd_211 p1)) = 0 then 1 else (if (jw (jd_204 (jw p6) 0 255)) = 0 then 2 else (if (jw p4) < 0 then 2 else (if 0 ≤ (jw p5) then 0 else 2))))) m
def jd_216_s55 (x1 : Int) (x2 : Int) (x5 : Int) (x6 : Int) (x8 : Int) (m : jM) : Option ((Int × Int × jM) ⊕ jM) :=
  ((jd_213 x1 x2 m).bind fun v4 => (if (jw v4) ≤ (jw x8) then some (.inr m) else ((some (((864 * x1) + (jd_207 x2)) + x8)).bind fun z7 => ((jma m 79 z7).bind fun v9 => ((jnzl (jw ((2 * x5) + 1))).bind fun u11 => ((jmw m 79 z7 (jd_205 (((jw v9) + (jlrem (jlushr ((x6 * 6364136223846793005) + 1442695040888963407) 33) (jw ((2 * x5) + 1)))) - (jw x5)) 0 255)).bind fun m13 => some (.inl (((x6 * 6364136223846793005) + 1442695040888963407), (x8 + 1), m13))))))))
def jd_216_l55 (x1 : Int) (x2 : Int) (x5 : Int) (x6 : Int) (x8 : Int) (m : jM) : Option jM :=
  jlp (fun s : (Int × Int × jM) => jd_216_s55 x1 x2 x5 s.1 s.2.1 s.2.2) jfu (x6, x8, m)
def jd_216_b38 (x1 : Int) (x2 : Int) (x3 : Int) (x5 : Int) (y0 : Int) (m : jM) : Option jM :=
  ((some (jms m 76 0 y0)).bind fun m1 => (if (jw (m1 76 0)) ≤ 0 then ((jd_216_l55 x1 x2 x5 x3 0 m1).bind fun x15 => some x15) else some m1))
def jd_216 (p0 : Int) (p1 : Int) (p2 : Int) (p3 : Int) (m : jM) : Option jM :=
  jd_216_b38 p0 p1 p2 p3 (if (jw (jd_210 p0 m)) = 0 then 1 else (if (jw (jd_211 p1)) = 0 then 1 else (if (jw (jd_204 (jw p3) 0 255)) = 0 then 2 else 0))) m
def jd_217_s177 (x1 : Int) (x2 : Int) (x3 : Int) (x4 : Int) (x5 : Int) (x6 : Int) (x7 : Int) (x8 : Int) (x9 : Int) (x10 : Int) (m : jM) : Option ((Int × jM) ⊕ jM) :=
  (if (jw x5) ≤ (jw x10) then some (.inr m) else ((jd_212 (m 76 1) x4 x10 x9 m).bind fun v23 => ((jd_212 x1 x4 (jd_205 (jw (x10 - x7)) 0 (x5 - 1)) (jd_205 (jw (x9 - x8)) 0 (x6 - 1)) m).bind fun v25 => ((jma m 79 v25).bind fun v27 => ((jmw m 79 v23 v27).bind fun m29 => some (.inl ((x10 + 1), m29)))))))
def jd_217_l177 (x1 : Int) (x2 : Int) (x3 : Int) (x4 : Int) (x5 : Int) (x6 : Int) (x7 : Int) (x8 : Int) (x9 : Int) (x10 : Int) (m : jM) : Option jM :=
  jlp (fun s : (Int × jM) => jd_217_s177 x1 x2 x3 x4 x5 x6 x7 x8 x9 s.1 s.2) jfu (x10, m)
def jd_217_s167 (x1 : Int) (x2 : Int) (x3 : Int) (x4 : Int) (x5 : Int) (x6 : Int) (x7 : Int) (x8 : Int) (x9 : Int) (m : jM) : Option ((Int × jM) ⊕ jM) :=
  (if (jw x6) ≤ (jw x9) then some (.inr m) else ((jd_217_l177 x1 x2 x3 x4 x5 x6 x7 x8 x9 0 m).bind fun x31 => some (.inl ((x9 + 1), x31))))
def jd_217_l167 (x1 : Int) (x2 : Int) (x3 : Int) (x4 : Int) (x5 : Int) (x6 : Int) (x7 : Int) (x8 : Int) (x9 : Int) (m : jM) : Option jM :=
  jlp (fun s : (Int × jM) => jd_217_s167 x1 x2 x3 x4 x5 x6 x7 x8 s.1 s.2) jfu (x9, m)
def jd_217_s104 (x1 : Int) (x2 : Int) (x3 : Int) (x4 : Int) (m : jM) : Option ((Int × jM) ⊕ jM) :=
  (if 3 ≤ (jw x4) then some (.inr m) else ((jma m 77 x1).bind fun v13 => ((jma m 78 x1).bind fun v15 => ((some (if (jw x4) = 0 then x2 else (jdiv x2 2))).bind fun z17 => ((some (if (jw x4) = 0 then x3 else (jdiv x3 2))).bind fun z19 => ((jd_217_l167 x1 x2 x3 x4 (jd_206 v13 x4) (jd_206 v15 x4) z17 z19 0 m).bind fun x33 => some (.inl ((x4 + 1), x33))))))))
def jd_217_l104 (x1 : Int) (x2 : Int) (x3 : Int) (x4 : Int) (m : jM) : Option jM :=
  jlp (fun s : (Int × jM) => jd_217_s104 x1 x2 x3 s.1 s.2) jfu (x4, m)
def jd_217_b59 (x1 : Int) (x2 : Int) (x3 : Int) (y0 : Int) (m : jM) : Option (Int × jM) :=
  ((some (jms m 76 0 y0)).bind fun m1 => (if (jw (m1 76 0)) ≤ 0 then ((jma m1 77 x1).bind fun v4 => ((jmw m1 77 (m1 76 1) v4).bind fun m6 => ((jma m6 78 x1).bind fun v8 => ((jmw m6 78 (m6 76 1) v8).bind fun m10 => ((jd_217_l104 x1 x2 x3 0 m10).bind fun x39 => ((some (jms x39 76 1 ((x39 76 1) + 1))).bind fun m41 => some (((m41 76 1) - 1), m41))))))) else some (0, m1)))
def jd_217 (p0 : Int) (p1 : Int) (p2 : Int) (m : jM) : Option (Int × jM) :=
  jd_217_b59 p0 p1 p2 (if (jw (jd_210 p0 m)) = 0 then 1 else (if (jw (jd_204 (jw p1) (-1000) 1000)) = 0 then 2 else (if (jw (jd_204 (jw p2) (-1000) 1000)) = 0 then 2 else (if (jw (m 76 1)) = 60 then 3 else 0)))) m
def jd_218_b64  (m : jM) : Option Int :=
  some 0
def jd_218_b65 (y0 : Int) (m : jM) : Option Int :=
  ((jbc y0).bind fun u8 => some y0)
def jd_218 (p0 : Int) (p1 : Int) (p2 : Int) (p3 : Int) (m : jM) : Option Int :=
  (if (jw (jd_210 p0 m)) = 0 then jd_218_b64  m else (if (jw (jd_211 p1)) = 0 then jd_218_b64  m else ((jma m 77 p0).bind fun v3 => (if (jw (jd_204 (jw p2) 0 (jw ((jd_206 v3 p1) - 1)))) = 0 then jd_218_b64  m else ((jma m 78 p0).bind fun v6 => jd_218_b65 (if (jw (jd_204 (jw p3) 0 (jw ((jd_206 v6 p1) - 1)))) = 0 then 0 else 1) m)))))
def jd_219_b35 (x1 : Int) (x2 : Int) (x3 : Int) (x4 : Int) (x5 : Int) (y0 : Int) (m : jM) : Option (Int × jM) :=
  ((some (jms m 76 0 y0)).bind fun m3 => (if (jw (m3 76 0)) ≤ 0 then ((jd_212 x1 x2 x3 x4 m3).bind fun v6 => ((jma m3 79 v6).bind fun v8 => ((jd_212 x1 x2 x3 x4 m3).bind fun v10 => ((jmw m3 79 v10 x5).bind fun m12 => some (v8, m12))))) else some (0, m3)))
def jd_219 (p0 : Int) (p1 : Int) (p2 : Int) (p3 : Int) (p4 : Int) (m : jM) : Option (Int × jM) :=
  ((jd_218 p0 p1 p2 p3 m).bind fun v1 => jd_219_b35 p0 p1 p2 p3 p4 (if (jw v1) = 0 then 1 else (if (jw (jd_204 (jw p4) 0 255)) = 0 then 2 else 0)) m)
def jd_220_b46 (y0 : Int) (m : jM) : Option (Int × jM) :=
  some (y0, m)
def jd_220 (p0 : Int) (p1 : Int) (p2 : Int) (p3 : Int) (m : jM) : Option (Int × jM) :=
  ((jd_218 p0 p1 p2 p3 m).bind fun v1 => ((some (jms m 76 0 (if (jw v1) = 0 then 1 else 0))).bind fun m3 => (if (jw (m3 76 0)) ≤ 0 then ((jd_212 p0 p1 p2 p3 m3).bind fun v6 => ((jma m3 79 v6).bind fun v8 => jd_220_b46 v8 m3)) else jd_220_b46 0 m3)))
def jd_221_b61 (y0 : Int) (m : jM) : Option (Int × jM) :=
  some (y0, m)
def jd_221_b28 (x1 : Int) (x2 : Int) (y0 : Int) (m : jM) : Option (Int × jM) :=
  ((some (jms m 76 0 y0)).bind fun m1 => (if (jw (m1 76 0)) ≤ 0 then (if (jw x2) = 0 then ((jma m1 77 x1).bind fun v5 => jd_221_b61 v5 m1) else ((jma m1 78 x1).bind fun v7 => jd_221_b61 v7 m1)) else jd_221_b61 0 m1))
def jd_221 (p0 : Int) (p1 : Int) (m : jM) : Option (Int × jM) :=
  jd_221_b28 p0 p1 (if (jw (jd_210 p0 m)) = 0 then 1 else (if (jw (jd_204 (jw p1) 0 1)) = 0 then 2 else 0)) m
def jd_222 (p0 : Int) (m : jM) : Option (Int × jM) :=
  ((some (jms m 76 0 (if 0 ≤ (jw p0) then 0 else 1))).bind fun m1 => (if (jw (m1 76 0)) ≤ 0 then ((some (jms m1 76 1 (if (jw (m1 76 1)) ≤ (jw p0) then (m1 76 1) else p0))).bind fun m4 => some ((m4 76 1), m4)) else some (0, m1)))
def jd_223_s49 (x1 : Int) (x3 : Int) (x4 : Int) (m : jM) : Option ((Int × jM) ⊕ jM) :=
  (if (jw x3) ≤ (jw x4) then some (.inr m) else ((jmw m 80 ((m 76 5) + x4) (jland (jlushr x1 (8 * x4)) 255)).bind fun m5 => some (.inl ((x4 + 1), m5))))
def jd_223_l49 (x1 : Int) (x3 : Int) (x4 : Int) (m : jM) : Option jM :=
  jlp (fun s : (Int × jM) => jd_223_s49 x1 x3 s.1 s.2) jfu (x4, m)
def jd_223_b34 (x1 : Int) (x3 : Int) (y0 : Int) (m : jM) : Option (Int × jM) :=
  ((some (jms m 76 0 y0)).bind fun m1 => (if (jw (m1 76 0)) ≤ 0 then ((jd_223_l49 x1 x3 0 m1).bind fun x7 => ((some (jms x7 76 5 ((x7 76 5) + x3))).bind fun m9 => some ((m9 76 5), m9))) else some (0, m1)))
def jd_223 (p0 : Int) (p1 : Int) (m : jM) : Option (Int × jM) :=
  jd_223_b34 p0 p1 (if (jw (jd_204 (jw p1) 1 8)) = 0 then 1 else (if (jw ((m 76 5) + p1)) ≤ 4000 then 0 else 2)) m
def jd_224_b22 (x1 : Int) (x2 : Int) (y0 : Int) (m : jM) : Option (Int × jM) :=
  ((some (jms m 76 0 y0)).bind fun m1 => (if (jw (m1 76 0)) ≤ 0 then ((jma m1 80 x1).bind fun v4 => ((jmw m1 80 x1 (jand x2 255)).bind fun m6 => some (v4, m6))) else some (0, m1)))
def jd_224 (p0 : Int) (p1 : Int) (m : jM) : Option (Int × jM) :=
  jd_224_b22 p0 p1 (if (jw (jd_204 (jw p0) 0 (jw ((m 76 5) - 1)))) = 0 then 1 else 0) m
def jd_225_b31 (y0 : Int) (m : jM) : Option (Int × jM) :=
  some (y0, m)
def jd_225 (p0 : Int) (m : jM) : Option (Int × jM) :=
  ((some (jms m 76 0 0)).bind fun m1 => (if (jw (jd_204 (jw p0) 0 (jw ((m1 76 5) - 1)))) = 0 then jd_225_b31 (-1) m1 else ((jma m1 80 p0).bind fun v4 => jd_225_b31 v4 m1)))
def jd_226  (m : jM) : Option (Int × jM) :=
  ((some (jms m 76 0 0)).bind fun m1 => ((some (jms m1 76 5 0)).bind fun m3 => some ((m1 76 5), m3)))
def jd_227  (m : jM) : Option (Int × jM) :=
  (if (jw (m 76 52)) ≤ 0 then (if (jw (m 76 51)) = (jw (m 76 50)) then ((some (jms m 76 52 1)).bind fun m3 => some (0, m3)) else ((jmb m 112 ((m 76 49) + (jshr (m 76 51) 3))).bind fun v5 => ((some (jand (jshr v5 (7 - (jand (m 76 51) 7))) 1)).bind fun z7 => ((some (jms m 76 51 ((m 76 51) + 1))).bind fun m9 => some (z7, m9))))) else some (0, m))
def jd_228_s4 (x1 : Int) (x2 : Int) (x3 : Int) (m : jM) : Option ((Int × Int × jM) ⊕ (Int × jM)) :=
  (if (jw x1) ≤ (jw x3) then some (.inr (x2, m)) else ((jd_227 m).bind fun q2 => some (.inl (((2 * x2) + q2.1), (x3 + 1), q2.2))))
def jd_228_l4 (x1 : Int) (x2 : Int) (x3 : Int) (m : jM) : Option (Int × jM) :=
  jlp (fun s : (Int × Int × jM) => jd_228_s4 x1 s.1 s.2.1 s.2.2) jfu (x2, x3, m)
def jd_228 (p0 : Int) (m : jM) : Option (Int × jM) :=
  ((jd_228_l4 p0 0 0 m).bind fun x4 => some (x4.1, x4.2))
def jd_229_s2 (x1 : Int) (m : jM) : Option ((Int × jM) ⊕ (Int × jM)) :=
  (if (jw (m 76 52)) = 0 then ((jd_227 m).bind fun q2 => (if (jw q2.1) = 0 then (if (jw (q2.2 76 52)) = 0 then (if (jw (x1 + 1)) = 15 then ((some (jms q2.2 76 52 7)).bind fun m7 => some (.inl ((x1 + 1), m7))) else some (.inl ((x1 + 1), q2.2))) else some (.inr (x1, q2.2))) else some (.inr (x1, q2.2)))) else some (.inr (x1, m)))
def jd_229_l2 (x1 : Int) (m : jM) : Option (Int × jM) :=
  jlp (fun s : (Int × jM) => jd_229_s2 s.1 s.2) jfu (x1, m)
def jd_229_s45 (x1 : Int) (x2 : Int) (x3 : Int) (m : jM) : Option ((Int × Int × jM) ⊕ (Int × jM)) :=
  (if (jw x1) ≤ (jw x3) then some (.inr (x2, m)) else (if (jw (m 76 52)) = 0 then ((jd_227 m).bind fun q13 => some (.inl (((2 * x2) + q13.1), (x3 + 1), q13.2))) else some (.inr (x2, m))))
def jd_229_l45 (x1 : Int) (x2 : Int) (x3 : Int) (m : jM) : Option (Int × jM) :=
  jlp (fun s : (Int × Int × jM) => jd_229_s45 x1 s.1 s.2.1 s.2.2) jfu (x2, x3, m)
def jd_229  (m : jM) : Option (Int × jM) :=
  ((jd_229_l2 0 m).bind fun x9 => ((jd_229_l45 x9.1 1 0 x9.2).bind fun x15 => some ((if (jw (x15.2 76 52)) ≤ 0 then (x15.1 - 1) else 0), x15.2)))
def jd_230_b24 (y0 : Int) (m : jM) : Option (Int × jM) :=
  some (y0, m)
def jd_230  (m : jM) : Option (Int × jM) :=
  ((jd_229 m).bind fun q1 => jd_230_b24 (if (jw (jand q1.1 1)) = 1 then (jdiv (q1.1 + 1) 2) else (-(jdiv q1.1 2))) q1.2)
def jd_231_b12  (m : jM) : Option jM :=
  some m
def jd_231 (p0 : Int) (m : jM) : Option jM :=
  (if (jw (m 76 52)) = 0 then ((some (jms m 76 52 p0)).bind fun m2 => jd_231_b12  m2) else jd_231_b12  m)
def jd_232_s4 (x1 : Int) (x3 : Int) (m : jM) : Option ((Int × jM) ⊕ jM) :=
  (if (jw x3) < 0 then some (.inr m) else ((jmw m 113 (m 76 53) (jwb (jand (jshr x1 x3) 1))).bind fun m2 => ((some (jms m2 76 53 ((m2 76 53) + 1))).bind fun m4 => some (.inl ((x3 + (-1)), m4)))))
def jd_232_l4 (x1 : Int) (x3 : Int) (m : jM) : Option jM :=
  jlp (fun s : (Int × jM) => jd_232_s4 x1 s.1 s.2) jfu (x3, m)
def jd_232 (p0 : Int) (p1 : Int) (m : jM) : Option jM :=
  ((jd_232_l4 p0 (p1 - 1) m).bind fun x6 => some x6)
def jd_233_s2 (x0 : Int) (x1 : Int)  : Option (Int ⊕ Int) :=
  (if (jw (jshr x0 x1)) ≤ 1 then some (.inr x1) else some (.inl (x1 + 1)))
def jd_233_l2 (x0 : Int) (x1 : Int)  : Option Int :=
  jlp (fun s : Int => jd_233_s2 x0 s ) jfu x1
def jd_233 (p0 : Int)  : Option Int :=
  ((jd_233_l2 p0 0 ).bind fun x2 => some x2)
def jd_234 (p0 : Int) (m : jM) : Option jM :=
  ((jd_233 (p0 + 1)).bind fun v1 => ((jd_232 0 v1 m).bind fun m3 => ((jd_232 (p0 + 1) (v1 + 1) m3).bind fun m5 => some m5)))
def jd_235 (p0 : Int)  : Option Int :=
  ((jd_233 (p0 + 1)).bind fun v1 => some ((2 * v1) + 1))
def jd_236 (p0 : Int) : Int := (if (jw p0) ≤ 0 then ((-2) * p0) else ((2 * p0) - 1))
def jd_237 (p0 : Int) (p1 : Int) (p2 : Int) (p3 : Int) (m : jM) : Int := ((((864 * p0) + (jd_207 p1)) + (p3 * (jd_206 (m 76 33) p1))) + p2)
def jd_238  (m : jM) : Int := ((jdiv (m 76 33) 8) * (jdiv (m 76 34) 8))
def jd_239_s7 (x3 : Int) (x4 : Int) (m : jM) : Option ((Int × Int) ⊕ (Int ⊕ Unit)) :=
  (if (jw x4) < (jw (m 76 36)) then some (.inr (.inr ())) else ((jma m 102 x4).bind fun v2 => (if (jw (if (jw v2) = 2 then x3 else (x3 + (-1)))) = 0 then some (.inr (.inl x4)) else some (.inl ((if (jw v2) = 2 then x3 else (x3 + (-1))), (x4 + (-1)))))))
def jd_239_l7 (x3 : Int) (x4 : Int) (m : jM) : Option (Int ⊕ Unit) :=
  jlp (fun s : (Int × Int) => jd_239_s7 s.1 s.2 m) jfu (x3, x4)
def jd_239 (p0 : Int) (p1 : Int) (m : jM) : Option Int :=
  ((jd_239_l7 p1 (p0 - 1) m).bind fun x7 => jse x7 (fun y9 => some y9) (fun y10 => some (-1)))
def jd_240 (p0 : Int) (m : jM) : Option Int :=
  ((jma m 102 p0).bind fun v1 => ((jd_239 p0 (if (jw v1) = 2 then 2 else 1) m).bind fun v3 => some v3))
def jd_241_b44 (x6 : Int) (y0 : Int) (y1 : Int) (m : jM) : Option jM :=
  ((jmw m 109 y1 y0).bind fun m2 => ((jmw m2 110 x6 1).bind fun m4 => some m4))
def jd_241 (p0 : Int) (p1 : Int) (p2 : Int) (p3 : Int) (p4 : Int) (m : jM) : Option jM :=
  (if (jw p4) = (-1) then jd_241_b44 (jd_237 p0 p1 p2 p3 m) 128 (jd_237 p0 p1 p2 p3 m) m else ((jma m 109 (jd_237 p4 p1 p2 p3 m)).bind fun v6 => jd_241_b44 (jd_237 p0 p1 p2 p3 m) v6 (jd_237 p0 p1 p2 p3 m) m))
def jd_242_s2 (x1 : Int) (x2 : Int) (m : jM) : Option ((Int × jM) ⊕ jM) :=
  (if 864 ≤ (jw x2) then some (.inr m) else ((jmw m 110 ((864 * x1) + x2) 0).bind fun m2 => some (.inl ((x2 + 1), m2))))
def jd_242_l2 (x1 : Int) (x2 : Int) (m : jM) : Option jM :=
  jlp (fun s : (Int × jM) => jd_242_s2 x1 s.1 s.2) jfu (x2, m)
def jd_242 (p0 : Int) (m : jM) : Option jM :=
  ((jd_242_l2 p0 0 m).bind fun x4 => some x4)
def jd_243 (p0 : Int) : Int := (if (jw p0) = 0 then 8 else 4)
def jd_244 (p0 : Int) : Int := (if (jw p0) = 0 then 0 else (if (jw p0) = 1 then 64 else 80))
def jd_245 (p0 : Int) (m : jM) : Option Int :=
  ((jnz (jdiv (m 76 33) 8)).bind fun u1 => some (jrem p0 (jdiv (m 76 33) 8)))
def jd_246 (p0 : Int) (m : jM) : Option Int :=
  ((jnz (jdiv (m 76 33) 8)).bind fun u1 => some (jdiv p0 (jdiv (m 76 33) 8)))
def jd_248_b79 (x1 : Int) (x2 : Int) (x3 : Int) (x4 : Int) (x5 : Int) (x6 : Int) (x7 : Int) (x8 : Int) (m : jM) : Option ((Int × Int × Int) ⊕ (Int × Int)) :=
  some (.inl (x6, x7, (x8 + 1)))
def jd_248_b48 (x1 : Int) (x2 : Int) (x3 : Int) (x4 : Int) (x5 : Int) (x6 : Int) (x7 : Int) (x8 : Int) (m : jM) : Option ((Int × Int × Int) ⊕ (Int × Int)) :=
  (if (jw x3) ≤ 0 then jd_248_b79 x1 x2 x3 x4 x5 x6 x7 x8 m else ((jma m 109 (jd_237 x1 x2 (x3 - 1) (x4 + x8) m)).bind fun v4 => jd_248_b79 x1 x2 x3 x4 x5 (x6 + v4) (x7 + 1) x8 m))
def jd_248_s9 (x1 : Int) (x2 : Int) (x3 : Int) (x4 : Int) (x5 : Int) (x6 : Int) (x7 : Int) (x8 : Int) (m : jM) : Option ((Int × Int × Int) ⊕ (Int × Int)) :=
  (if (jw x5) ≤ (jw x8) then some (.inr (x6, x7)) else (if (jw x4) ≤ 0 then jd_248_b48 x1 x2 x3 x4 x5 x6 x7 x8 m else ((jma m 109 (jd_237 x1 x2 (x3 + x8) (x4 - 1) m)).bind fun v6 => jd_248_b48 x1 x2 x3 x4 x5 (x6 + v6) (x7 + 1) x8 m)))
def jd_248_l9 (x1 : Int) (x2 : Int) (x3 : Int) (x4 : Int) (x5 : Int) (x6 : Int) (x7 : Int) (x8 : Int) (m : jM) : Option (Int × Int) :=
  jlp (fun s : (Int × Int × Int) => jd_248_s9 x1 x2 x3 x4 x5 s.1 s.2.1 s.2.2 m) jfu (x6, x7, x8)
def jd_248_b106 (y0 : Int) (m : jM) : Option Int :=
  some y0
def jd_248 (p0 : Int) (p1 : Int) (p2 : Int) (p3 : Int) (p4 : Int) (m : jM) : Option Int :=
  ((jd_248_l9 p0 p1 p2 p3 p4 0 0 0 m).bind fun x8 => (if (jw x8.2) = 0 then jd_248_b106 128 m else ((jnz x8.2).bind fun u11 => jd_248_b106 (jdiv (x8.1 + (jdiv x8.2 2)) x8.2) m)))
def jd_250 (p0 : Int) (p1 : Int) (p2 : Int) (p3 : Int) (m : jM) : Option Int :=
  ((jma m 109 (jd_237 p0 p1 (jd_205 (jw p2) 0 ((jd_206 (m 76 33) p1) - 1)) (jd_205 (jw p3) 0 ((jd_206 (m 76 34) p1) - 1)) m)).bind fun v1 => some v1)
def jd_251_b200 (y0 : Int) (y1 : Int) (m : jM) : Option Int :=
  some (jdiv ((y1 + y0) + 1) 2)
def jd_251_b166 (x1 : Int) (x2 : Int) (x9 : Int) (x10 : Int) (x11 : Int) (x13 : Int) (m : jM) : Option Int :=
  (if (jw x11) = 0 then ((jd_250 x1 x2 x9 (x10 + 1) m).bind fun v15 => jd_251_b200 v15 x13 m) else ((jd_250 x1 x2 (x9 + 1) x10 m).bind fun v17 => jd_251_b200 v17 x13 m))
def jd_251_b108 (x1 : Int) (x2 : Int) (x9 : Int) (x10 : Int) (x11 : Int) (x12 : Int) (x13 : Int) (m : jM) : Option Int :=
  (if (jw x11) = 0 then jd_251_b166 x1 x2 x9 x10 x11 x13 m else (if (jw x12) = 0 then jd_251_b166 x1 x2 x9 x10 x11 x13 m else ((jd_250 x1 x2 (x9 + 1) x10 m).bind fun v20 => ((jd_250 x1 x2 x9 (x10 + 1) m).bind fun v22 => ((jd_250 x1 x2 (x9 + 1) (x10 + 1) m).bind fun v24 => some (jdiv ((((x13 + v20) + v22) + v24) + 2) 4))))))
def jd_251 (p0 : Int) (p1 : Int) (p2 : Int) (p3 : Int) (p4 : Int) (p5 : Int) (m : jM) : Option Int :=
  ((some ((2 * p2) + (if (jw p1) = 0 then p4 else (jdiv p4 2)))).bind fun z1 => ((some ((2 * p3) + (if (jw p1) = 0 then p5 else (jdiv p5 2)))).bind fun z3 => ((some (if (jw (jand z1 1)) = 1 then 1 else 0)).bind fun z5 => ((some (if (jw (jand z3 1)) = 1 then 1 else 0)).bind fun z7 => ((jd_250 p0 p1 (jd_209 z1) (jd_209 z3) m).bind fun v9 => (if (jw z5) = 0 then (if (jw z7) = 0 then some v9 else jd_251_b108 p0 p1 (jd_209 z1) (jd_209 z3) z5 z7 v9 m) else jd_251_b108 p0 p1 (jd_209 z1) (jd_209 z3) z5 z7 v9 m))))))
def jd_249_b46 (x1 : Int) (x2 : Int) (x3 : Int) (x4 : Int) (x5 : Int) (x8 : Int) (x9 : Int) (y0 : Int) (m : jM) : Option Int :=
  (if (jw x5) = 3 then some y0 else ((jd_239 x1 1 m).bind fun v7 => ((jd_251 v7 x2 x3 x4 x8 x9 m).bind fun v9 => some (if (jw x5) = 4 then v9 else (jdiv ((y0 + v9) + 1) 2)))))
def jd_249 (p0 : Int) (p1 : Int) (p2 : Int) (p3 : Int) (p4 : Int) (p5 : Int) (p6 : Int) (p7 : Int) (p8 : Int) (m : jM) : Option Int :=
  ((jma m 102 p0).bind fun v1 => ((jd_239 p0 (if (jw v1) = 2 then 2 else 1) m).bind fun v3 => (if (jw p4) = 4 then jd_249_b46 p0 p1 p2 p3 p4 p7 p8 0 m else ((jd_251 v3 p1 p2 p3 p5 p6 m).bind fun v13 => jd_249_b46 p0 p1 p2 p3 p4 p7 p8 v13 m))))
def jd_247_b194 (x1 : Int) (x2 : Int) (x3 : Int) (x4 : Int) (x5 : Int) (x6 : Int) (x7 : Int) (x8 : Int) (x9 : Int) (x10 : Int) (x11 : Int) (x12 : Int) (x13 : Int) (x14 : Int) (x15 : Int) (m : jM) : Option ((Int × jM) ⊕ jM) :=
  ((jmw m 114 (((jd_244 x8) + (x9 * x13)) + x14) x15).bind fun m16 => some (.inl ((x14 + 1), m16)))
def jd_247_b161 (x1 : Int) (x2 : Int) (x3 : Int) (x4 : Int) (x5 : Int) (x6 : Int) (x7 : Int) (x8 : Int) (x9 : Int) (x10 : Int) (x11 : Int) (x12 : Int) (x13 : Int) (x14 : Int) (x15 : Int) (m : jM) : Option ((Int × jM) ⊕ jM) :=
  (if (jw x3) < 3 then jd_247_b194 x1 x2 x3 x4 x5 x6 x7 x8 x9 x10 x11 x12 x13 x14 x15 m else ((jd_249 x1 x8 (x10 + x14) (x11 + x13) x3 x4 x5 x6 x7 m).bind fun v18 => jd_247_b194 x1 x2 x3 x4 x5 x6 x7 x8 x9 x10 x11 x12 x13 x14 v18 m))
def jd_247_b159 (x1 : Int) (x2 : Int) (x3 : Int) (x4 : Int) (x5 : Int) (x6 : Int) (x7 : Int) (x8 : Int) (x9 : Int) (x10 : Int) (x11 : Int) (x12 : Int) (x13 : Int) (x14 : Int) (y0 : Int) (m : jM) : Option ((Int × jM) ⊕ jM) :=
  jd_247_b161 x1 x2 x3 x4 x5 x6 x7 x8 x9 x10 x11 x12 x13 x14 y0 m
def jd_247_b122 (x1 : Int) (x2 : Int) (x3 : Int) (x4 : Int) (x5 : Int) (x6 : Int) (x7 : Int) (x8 : Int) (x9 : Int) (x10 : Int) (x11 : Int) (x12 : Int) (x13 : Int) (x14 : Int) (x15 : Int) (m : jM) : Option ((Int × jM) ⊕ jM) :=
  (if (jw x3) = 2 then (if (jw x11) = 0 then jd_247_b159 x1 x2 x3 x4 x5 x6 x7 x8 x9 x10 x11 x12 x13 x14 128 m else ((jma m 109 (jd_237 x1 x8 (x10 + x14) (x11 - 1) m)).bind fun v20 => jd_247_b159 x1 x2 x3 x4 x5 x6 x7 x8 x9 x10 x11 x12 x13 x14 v20 m)) else jd_247_b161 x1 x2 x3 x4 x5 x6 x7 x8 x9 x10 x11 x12 x13 x14 x15 m)
def jd_247_b120 (x1 : Int) (x2 : Int) (x3 : Int) (x4 : Int) (x5 : Int) (x6 : Int) (x7 : Int) (x8 : Int) (x9 : Int) (x10 : Int) (x11 : Int) (x12 : Int) (x13 : Int) (x14 : Int) (y0 : Int) (m : jM) : Option ((Int × jM) ⊕ jM) :=
  jd_247_b122 x1 x2 x3 x4 x5 x6 x7 x8 x9 x10 x11 x12 x13 x14 y0 m
def jd_247_s72 (x1 : Int) (x2 : Int) (x3 : Int) (x4 : Int) (x5 : Int) (x6 : Int) (x7 : Int) (x8 : Int) (x9 : Int) (x10 : Int) (x11 : Int) (x12 : Int) (x13 : Int) (x14 : Int) (m : jM) : Option ((Int × jM) ⊕ jM) :=
  (if (jw x9) ≤ (jw x14) then some (.inr m) else (if (jw x3) = 1 then (if (jw x10) = 0 then jd_247_b120 x1 x2 x3 x4 x5 x6 x7 x8 x9 x10 x11 x12 x13 x14 128 m else ((jma m 109 (jd_237 x1 x8 (x10 - 1) (x11 + x13) m)).bind fun v22 => jd_247_b120 x1 x2 x3 x4 x5 x6 x7 x8 x9 x10 x11 x12 x13 x14 v22 m)) else jd_247_b122 x1 x2 x3 x4 x5 x6 x7 x8 x9 x10 x11 x12 x13 x14 x12 m))
def jd_247_l72 (x1 : Int) (x2 : Int) (x3 : Int) (x4 : Int) (x5 : Int) (x6 : Int) (x7 : Int) (x8 : Int) (x9 : Int) (x10 : Int) (x11 : Int) (x12 : Int) (x13 : Int) (x14 : Int) (m : jM) : Option jM :=
  jlp (fun s : (Int × jM) => jd_247_s72 x1 x2 x3 x4 x5 x6 x7 x8 x9 x10 x11 x12 x13 s.1 s.2) jfu (x14, m)
def jd_247_s62 (x1 : Int) (x2 : Int) (x3 : Int) (x4 : Int) (x5 : Int) (x6 : Int) (x7 : Int) (x8 : Int) (x9 : Int) (x10 : Int) (x11 : Int) (x12 : Int) (x13 : Int) (m : jM) : Option ((Int × jM) ⊕ jM) :=
  (if (jw x9) ≤ (jw x13) then some (.inr m) else ((jd_247_l72 x1 x2 x3 x4 x5 x6 x7 x8 x9 x10 x11 x12 x13 0 m).bind fun x24 => some (.inl ((x13 + 1), x24))))
def jd_247_l62 (x1 : Int) (x2 : Int) (x3 : Int) (x4 : Int) (x5 : Int) (x6 : Int) (x7 : Int) (x8 : Int) (x9 : Int) (x10 : Int) (x11 : Int) (x12 : Int) (x13 : Int) (m : jM) : Option jM :=
  jlp (fun s : (Int × jM) => jd_247_s62 x1 x2 x3 x4 x5 x6 x7 x8 x9 x10 x11 x12 s.1 s.2) jfu (x13, m)
def jd_247_b57 (x1 : Int) (x2 : Int) (x3 : Int) (x4 : Int) (x5 : Int) (x6 : Int) (x7 : Int) (x8 : Int) (x9 : Int) (x10 : Int) (x11 : Int) (y0 : Int) (m : jM) : Option ((Int × jM) ⊕ jM) :=
  ((jd_247_l62 x1 x2 x3 x4 x5 x6 x7 x8 x9 x10 x11 y0 0 m).bind fun x26 => some (.inl ((x8 + 1), x26)))
def jd_247_s3 (x1 : Int) (x2 : Int) (x3 : Int) (x4 : Int) (x5 : Int) (x6 : Int) (x7 : Int) (x8 : Int) (m : jM) : Option ((Int × jM) ⊕ jM) :=
  (if 3 ≤ (jw x8) then some (.inr m) else ((jd_245 x2 m).bind fun v2 => ((jd_246 x2 m).bind fun v4 => (if (jw x3) = 0 then ((jd_248 x1 x8 ((jd_243 x8) * v2) ((jd_243 x8) * v4) (jd_243 x8) m).bind fun v7 => jd_247_b57 x1 x2 x3 x4 x5 x6 x7 x8 (jd_243 x8) ((jd_243 x8) * v2) ((jd_243 x8) * v4) v7 m) else jd_247_b57 x1 x2 x3 x4 x5 x6 x7 x8 (jd_243 x8) ((jd_243 x8) * v2) ((jd_243 x8) * v4) 0 m))))
def jd_247_l3 (x1 : Int) (x2 : Int) (x3 : Int) (x4 : Int) (x5 : Int) (x6 : Int) (x7 : Int) (x8 : Int) (m : jM) : Option jM :=
  jlp (fun s : (Int × jM) => jd_247_s3 x1 x2 x3 x4 x5 x6 x7 s.1 s.2) jfu (x8, m)
def jd_247 (p0 : Int) (p1 : Int) (p2 : Int) (p3 : Int) (p4 : Int) (p5 : Int) (p6 : Int) (m : jM) : Option jM :=
  ((jd_247_l3 p0 p1 p2 p3 p4 p5 p6 0 m).bind fun x28 => some x28)
def jd_252 (p0 : Int) : Int := (if 4 ≤ (jw p0) then (p0 - 3) else 0)
def jd_253 (p0 : Int) (p1 : Int) (p2 : Int) : Int := (if (jw p0) < 4 then (((8 * ((4 * (jshr p0 1)) + p2)) + (4 * (jand p0 1))) + p1) else (((jd_244 (p0 - 3)) + (4 * p2)) + p1))
def jd_254 (p0 : Int) : Int := (if (jw p0) = 0 then 0 else (if (jw p0) = 1 then 1 else (if (jw p0) = 2 then 4 else (if (jw p0) = 3 then 8 else (if (jw p0) = 4 then 5 else (if (jw p0) = 5 then 2 else (if (jw p0) = 6 then 3 else (if (jw p0) = 7 then 6 else (if (jw p0) = 8 then 9 else (if (jw p0) = 9 then 12 else (if (jw p0) = 10 then 13 else (if (jw p0) = 11 then 10 else (if (jw p0) = 12 then 7 else (if (jw p0) = 13 then 11 else (if (jw p0) = 14 then 14 else 15)))))))))))))))
def jd_255 (p0 : Int) (p1 : Int) : Int := (if (jw p0) = 0 then 1 else (if (jw p1) = 0 then 1 else (if (jw p0) = 1 then (if (jw p1) = 1 then 1 else (-1)) else (if (jw p0) = 2 then (if (jw p1) = 3 then 1 else (-1)) else (if (jw p1) = 2 then 1 else (-1))))))
def jd_256_s19 (x1 : Int) (x2 : Int) (x3 : Int) (x4 : Int) (m : jM) : Option ((Int × Int) ⊕ Int) :=
  (if 4 ≤ (jw x4) then some (.inr x3) else ((jma m 116 ((4 * x4) + x2)).bind fun v4 => some (.inl ((x3 + ((jd_255 x1 x4) * v4)), (x4 + 1)))))
def jd_256_l19 (x1 : Int) (x2 : Int) (x3 : Int) (x4 : Int) (m : jM) : Option Int :=
  jlp (fun s : (Int × Int) => jd_256_s19 x1 x2 s.1 s.2 m) jfu (x3, x4)
def jd_256_s9 (x1 : Int) (x2 : Int) (m : jM) : Option ((Int × jM) ⊕ jM) :=
  (if 4 ≤ (jw x2) then some (.inr m) else ((jd_256_l19 x1 x2 0 0 m).bind fun x6 => ((jmw m 117 ((4 * x1) + x2) x6).bind fun m8 => some (.inl ((x2 + 1), m8)))))
def jd_256_l9 (x1 : Int) (x2 : Int) (m : jM) : Option jM :=
  jlp (fun s : (Int × jM) => jd_256_s9 x1 s.1 s.2) jfu (x2, m)
def jd_256_s2 (x1 : Int) (m : jM) : Option ((Int × jM) ⊕ jM) :=
  (if 4 ≤ (jw x1) then some (.inr m) else ((jd_256_l9 x1 0 m).bind fun x10 => some (.inl ((x1 + 1), x10))))
def jd_256_l2 (x1 : Int) (m : jM) : Option jM :=
  jlp (fun s : (Int × jM) => jd_256_s2 s.1 s.2) jfu (x1, m)
def jd_256_s94 (x1 : Int) (x2 : Int) (x3 : Int) (x4 : Int) (m : jM) : Option ((Int × Int) ⊕ Int) :=
  (if 4 ≤ (jw x4) then some (.inr x3) else ((jma m 117 ((4 * x1) + x4)).bind fun v17 => some (.inl ((x3 + (v17 * (jd_255 x4 x2))), (x4 + 1)))))
def jd_256_l94 (x1 : Int) (x2 : Int) (x3 : Int) (x4 : Int) (m : jM) : Option Int :=
  jlp (fun s : (Int × Int) => jd_256_s94 x1 x2 s.1 s.2 m) jfu (x3, x4)
def jd_256_s84 (x1 : Int) (x2 : Int) (m : jM) : Option ((Int × jM) ⊕ jM) :=
  (if 4 ≤ (jw x2) then some (.inr m) else ((jd_256_l94 x1 x2 0 0 m).bind fun x19 => ((jmw m 116 ((4 * x1) + x2) x19).bind fun m21 => some (.inl ((x2 + 1), m21)))))
def jd_256_l84 (x1 : Int) (x2 : Int) (m : jM) : Option jM :=
  jlp (fun s : (Int × jM) => jd_256_s84 x1 s.1 s.2) jfu (x2, m)
def jd_256_s77 (x1 : Int) (m : jM) : Option ((Int × jM) ⊕ jM) :=
  (if 4 ≤ (jw x1) then some (.inr m) else ((jd_256_l84 x1 0 m).bind fun x23 => some (.inl ((x1 + 1), x23))))
def jd_256_l77 (x1 : Int) (m : jM) : Option jM :=
  jlp (fun s : (Int × jM) => jd_256_s77 s.1 s.2) jfu (x1, m)
def jd_256  (m : jM) : Option jM :=
  ((jd_256_l2 0 m).bind fun x12 => ((jd_256_l77 0 x12).bind fun x25 => some x25))
def jd_257_s2 (x1 : Int) (x2 : Int) (x3 : Int) (m : jM) : Option ((Int × jM) ⊕ jM) :=
  (if 16 ≤ (jw x3) then some (.inr m) else ((jma m 116 x3).bind fun v2 => ((jmw m 116 x3 (v2 * x2)).bind fun m4 => some (.inl ((x3 + 1), m4)))))
def jd_257_l2 (x1 : Int) (x2 : Int) (x3 : Int) (m : jM) : Option jM :=
  jlp (fun s : (Int × jM) => jd_257_s2 x1 x2 s.1 s.2) jfu (x3, m)
def jd_257_s30 (x1 : Int) (x3 : Int) (m : jM) : Option ((Int × jM) ⊕ jM) :=
  (if 16 ≤ (jw x3) then some (.inr m) else ((jma m 116 x3).bind fun v11 => ((jmw m 115 (jd_253 x1 (jrem x3 4) (jdiv x3 4)) (jshr (v11 + 8) 4)).bind fun m13 => some (.inl ((x3 + 1), m13)))))
def jd_257_l30 (x1 : Int) (x3 : Int) (m : jM) : Option jM :=
  jlp (fun s : (Int × jM) => jd_257_s30 x1 s.1 s.2) jfu (x3, m)
def jd_257 (p0 : Int) (p1 : Int) (m : jM) : Option jM :=
  ((jd_257_l2 p0 p1 0 m).bind fun x6 => ((jd_256 x6).bind fun m8 => ((jd_257_l30 p0 0 m8).bind fun x15 => some x15)))
def jd_258_s2 (x1 : Int) (x2 : Int) (x3 : Int) (m : jM) : Option ((Int × jM) ⊕ jM) :=
  (if 16 ≤ (jw x3) then some (.inr m) else ((jmw m 116 x3 0).bind fun m2 => some (.inl ((x3 + 1), m2))))
def jd_258_l2 (x1 : Int) (x2 : Int) (x3 : Int) (m : jM) : Option jM :=
  jlp (fun s : (Int × jM) => jd_258_s2 x1 x2 s.1 s.2) jfu (x3, m)
def jd_258_b143 (x1 : Int) (x2 : Int) (x3 : Int) (x4 : Int) (x5 : Int) (x6 : Int) (x7 : Int) (m : jM) : Option ((Int × Int × jM) ⊕ (jM ⊕ jM)) :=
  (if (jw (m 76 52)) ≤ 0 then ((jmw m 116 (jd_254 (x4 + (1 + x6))) x7).bind fun m24 => ((some (jms m24 76 59 ((m24 76 59) + 1))).bind fun m26 => some (.inl ((x4 + (1 + x6)), (x5 + 1), m26)))) else some (.inr (.inl m)))
def jd_258_b138 (x1 : Int) (x2 : Int) (x3 : Int) (x4 : Int) (x5 : Int) (x6 : Int) (x7 : Int) (m : jM) : Option ((Int × Int × jM) ⊕ (jM ⊕ jM)) :=
  ((jd_231 5 m).bind fun m21 => jd_258_b143 x1 x2 x3 x4 x5 x6 x7 m21)
def jd_258_b108 (x1 : Int) (x2 : Int) (x3 : Int) (x4 : Int) (x5 : Int) (x6 : Int) (y0 : Int) (m : jM) : Option ((Int × Int × jM) ⊕ (jM ⊕ jM)) :=
  (if (jw (m 76 52)) = 0 then (if (jw y0) = 0 then jd_258_b138 x1 x2 x3 x4 x5 x6 y0 m else (if (jw y0) < (-4095) then jd_258_b138 x1 x2 x3 x4 x5 x6 y0 m else (if (jw y0) ≤ 4095 then jd_258_b143 x1 x2 x3 x4 x5 x6 y0 m else jd_258_b138 x1 x2 x3 x4 x5 x6 y0 m))) else jd_258_b143 x1 x2 x3 x4 x5 x6 y0 m)
def jd_258_b93 (x1 : Int) (x2 : Int) (x3 : Int) (x4 : Int) (x5 : Int) (x6 : Int) (m : jM) : Option ((Int × Int × jM) ⊕ (jM ⊕ jM)) :=
  (if (jw (m 76 52)) = 0 then ((jd_230 m).bind fun q17 => jd_258_b108 x1 x2 x3 x4 x5 x6 q17.1 q17.2) else jd_258_b108 x1 x2 x3 x4 x5 x6 0 m)
def jd_258_s50 (x1 : Int) (x2 : Int) (x3 : Int) (x4 : Int) (x5 : Int) (m : jM) : Option ((Int × Int × jM) ⊕ (jM ⊕ jM)) :=
  (if (jw x3) ≤ (jw x5) then some (.inr (.inr m)) else (if (jw (m 76 52)) = 0 then ((jd_229 m).bind fun q12 => (if (jw (q12.2 76 52)) = 0 then (if (jw ((x4 + 1) + q12.1)) ≤ 15 then jd_258_b93 x1 x2 x3 x4 x5 q12.1 q12.2 else ((jd_231 4 q12.2).bind fun m30 => jd_258_b93 x1 x2 x3 x4 x5 q12.1 m30)) else jd_258_b93 x1 x2 x3 x4 x5 q12.1 q12.2)) else some (.inr (.inr m))))
def jd_258_l50 (x1 : Int) (x2 : Int) (x3 : Int) (x4 : Int) (x5 : Int) (m : jM) : Option (jM ⊕ jM) :=
  jlp (fun s : (Int × Int × jM) => jd_258_s50 x1 x2 x3 s.1 s.2.1 s.2.2) jfu (x4, x5, m)
def jd_258_b201  (m : jM) : Option jM :=
  some m
def jd_258_b44 (x1 : Int) (x2 : Int) (x3 : Int) (m : jM) : Option jM :=
  ((jd_258_l50 x1 x2 x3 (-1) 0 m).bind fun x32 => jse x32 (fun y34 => some y34) (fun y35 => (if (jw (y35 76 52)) = 0 then ((jd_257 x1 x2 y35).bind fun m37 => jd_258_b201  m37) else jd_258_b201  y35)))
def jd_258 (p0 : Int) (p1 : Int) (m : jM) : Option jM :=
  ((jd_258_l2 p0 p1 0 m).bind fun x4 => ((jd_229 x4).bind fun q6 => (if (jw (q6.2 76 52)) = 0 then (if (jw q6.1) ≤ 16 then jd_258_b44 p0 p1 q6.1 q6.2 else ((jd_231 4 q6.2).bind fun m39 => jd_258_b44 p0 p1 q6.1 m39)) else jd_258_b44 p0 p1 q6.1 q6.2)))
def jd_259 (p0 : Int) (p1 : Int) (p2 : Int) (m : jM) : Option Int :=
  ((jma m 111 (((63 * p0) + (7 * p1)) + p2)).bind fun v1 => some v1)
def jd_260_b21 (y0 : Int) (m : jM) : Option Int :=
  some y0
def jd_260 (p0 : Int) (p1 : Int) (p2 : Int) (m : jM) : Option Int :=
  ((jd_245 p1 m).bind fun v1 => (if (jw v1) = 0 then jd_260_b21 0 m else ((jd_259 p0 (p1 - 1) p2 m).bind fun v4 => jd_260_b21 v4 m)))
def jd_261 (p0 : Int) (p1 : Int) : Int := (if (jw p0) = 0 then p1 else (if (jw p0) = 1 then (if (jw p1) = 0 then (-1) else (if (jw p1) = 1 then 3 else (p1 - 2))) else (if (jw p1) = 0 then (-1) else (if 4 ≤ (jw p1) then (p1 - 4) else (p1 + 2)))))
def jd_262 (p0 : Int) : Int := (if (jw p0) = 0 then 3 else (if (jw p0) = 1 then 5 else 7))
def jd_263_b33 (x2 : Int) (m : jM) : Option (Int × jM) :=
  some (x2, m)
def jd_263 (p0 : Int) (m : jM) : Option (Int × jM) :=
  ((jd_230 m).bind fun q1 => (if (jw (q1.2 76 52)) = 0 then (if (jw (jd_204 (jw (p0 + q1.1)) (-16) 16)) = 0 then ((jd_231 3 q1.2).bind fun m5 => jd_263_b33 (p0 + q1.1) m5) else jd_263_b33 (p0 + q1.1) q1.2) else jd_263_b33 (p0 + q1.1) q1.2))
def jd_264_b66 (y0 : Int) (m : jM) : Option jM :=
  ((some (jms m 76 63 y0)).bind fun m17 => ((some (jms m17 76 64 0)).bind fun m19 => ((some (jms m19 76 65 0)).bind fun m21 => some m21)))
def jd_264_b41 (x1 : Int) (x2 : Int) (y0 : Int) (m : jM) : Option jM :=
  ((some (jms m 76 62 y0)).bind fun m10 => ((jma m10 102 x1).bind fun v12 => (if (jw v12) = 1 then ((jd_260 x1 x2 2 m10).bind fun v15 => jd_264_b66 v15 m10) else jd_264_b66 0 m10)))
def jd_264 (p0 : Int) (p1 : Int) (m : jM) : Option jM :=
  ((jma m 102 p0).bind fun v1 => ((some (jms m 76 61 (if (jw v1) = 1 then 3 else 5))).bind fun m3 => ((jma m3 102 p0).bind fun v5 => (if (jw v5) = 1 then ((jd_260 p0 p1 1 m3).bind fun v8 => jd_264_b41 p0 p1 v8 m3) else jd_264_b41 p0 p1 0 m3))))
def jd_266 (p0 : Int) (p1 : Int) (p2 : Int) (m : jM) : Option jM :=
  ((jmw m 111 ((63 * p0) + (7 * p1)) (m 76 60)).bind fun m1 => ((jmw m1 111 (((63 * p0) + (7 * p1)) + 1) (m1 76 62)).bind fun m3 => ((jmw m3 111 (((63 * p0) + (7 * p1)) + 2) (m3 76 63)).bind fun m5 => ((jmw m5 111 (((63 * p0) + (7 * p1)) + 3) (m5 76 64)).bind fun m7 => ((jmw m7 111 (((63 * p0) + (7 * p1)) + 4) (m7 76 65)).bind fun m9 => ((jmw m9 111 (((63 * p0) + (7 * p1)) + 5) (m9 76 59)).bind fun m11 => ((jmw m11 111 (((63 * p0) + (7 * p1)) + 6) p2).bind fun m13 => some m13)))))))
def jd_267_s16 (x1 : Int) (x2 : Int) (x3 : Int) (x4 : Int) (x5 : Int) (m : jM) : Option ((Int × jM) ⊕ jM) :=
  (if (jw (x4 * x4)) ≤ (jw x5) then some (.inr m) else ((jd_245 x2 m).bind fun v3 => ((jnz x4).bind fun u5 => ((jd_246 x2 m).bind fun v7 => ((jnz x4).bind fun u9 => ((jma m 114 ((jd_244 x3) + x5)).bind fun v11 => ((jma m 115 ((jd_244 x3) + x5)).bind fun v13 => ((jmw m 109 (jd_237 x1 x3 ((x4 * v3) + (jrem x5 x4)) ((x4 * v7) + (jdiv x5 x4)) m) (jd_205 (jw (v11 + v13)) 0 255)).bind fun m15 => some (.inl ((x5 + 1), m15))))))))))
def jd_267_l16 (x1 : Int) (x2 : Int) (x3 : Int) (x4 : Int) (x5 : Int) (m : jM) : Option jM :=
  jlp (fun s : (Int × jM) => jd_267_s16 x1 x2 x3 x4 s.1 s.2) jfu (x5, m)
def jd_267_s2 (x1 : Int) (x2 : Int) (x3 : Int) (m : jM) : Option ((Int × jM) ⊕ jM) :=
  (if 3 ≤ (jw x3) then some (.inr m) else ((jd_267_l16 x1 x2 x3 (jd_243 x3) 0 m).bind fun x17 => some (.inl ((x3 + 1), x17))))
def jd_267_l2 (x1 : Int) (x2 : Int) (x3 : Int) (m : jM) : Option jM :=
  jlp (fun s : (Int × jM) => jd_267_s2 x1 x2 s.1 s.2) jfu (x3, m)
def jd_267 (p0 : Int) (p1 : Int) (m : jM) : Option jM :=
  ((jd_267_l2 p0 p1 0 m).bind fun x19 => some x19)
def jd_265_s94 (x1 : Int) (x2 : Int) (x3 : Int) (x4 : Int) (m : jM) : Option ((Int × jM) ⊕ jM) :=
  (if 96 ≤ (jw x4) then some (.inr m) else ((jmw m 115 x4 0).bind fun m25 => some (.inl ((x4 + 1), m25))))
def jd_265_l94 (x1 : Int) (x2 : Int) (x3 : Int) (x4 : Int) (m : jM) : Option jM :=
  jlp (fun s : (Int × jM) => jd_265_s94 x1 x2 x3 s.1 s.2) jfu (x4, m)
def jd_265_b280 (x1 : Int) (x2 : Int) (x3 : Int) (m : jM) : Option jM :=
  (if (jw (m 76 52)) ≤ 0 then ((jd_266 x1 x2 ((m 76 51) - x3) m).bind fun m33 => ((jd_247 x1 x2 (m33 76 61) (m33 76 62) (m33 76 63) (m33 76 64) (m33 76 65) m33).bind fun m35 => ((jd_267 x1 x2 m35).bind fun m37 => some m37))) else some m)
def jd_265_s248 (x1 : Int) (x2 : Int) (x3 : Int) (x4 : Int) (m : jM) : Option ((Int × jM) ⊕ jM) :=
  (if 6 ≤ (jw x4) then some (.inr m) else (if (jw (m 76 52)) = 0 then ((jma m 104 x1).bind fun v70 => ((jd_258 x4 v70 m).bind fun m72 => some (.inl ((x4 + 1), m72)))) else some (.inr m)))
def jd_265_l248 (x1 : Int) (x2 : Int) (x3 : Int) (x4 : Int) (m : jM) : Option jM :=
  jlp (fun s : (Int × jM) => jd_265_s248 x1 x2 x3 s.1 s.2) jfu (x4, m)
def jd_265_b245 (x1 : Int) (x2 : Int) (x3 : Int) (m : jM) : Option jM :=
  ((jd_265_l248 x1 x2 x3 0 m).bind fun x74 => jd_265_b280 x1 x2 x3 x74)
def jd_265_b208 (x1 : Int) (x2 : Int) (x3 : Int) (m : jM) : Option jM :=
  ((jd_260 x1 x2 3 m).bind fun v55 => ((jd_263 v55 m).bind fun q57 => ((some (jms q57.2 76 64 q57.1)).bind fun m59 => (if (jw (m59 76 52)) = 0 then ((jd_260 x1 x2 4 m59).bind fun v62 => ((jd_263 v62 m59).bind fun q64 => ((some (jms q64.2 76 65 q64.1)).bind fun m66 => jd_265_b245 x1 x2 x3 m66))) else jd_265_b245 x1 x2 x3 m59))))
def jd_265_b185 (x1 : Int) (x2 : Int) (x3 : Int) (m : jM) : Option jM :=
  (if (jw (m 76 52)) = 0 then (if (jw (m 76 61)) = 4 then jd_265_b208 x1 x2 x3 m else (if (jw (m 76 61)) = 5 then jd_265_b208 x1 x2 x3 m else jd_265_b245 x1 x2 x3 m)) else jd_265_b245 x1 x2 x3 m)
def jd_265_b148 (x1 : Int) (x2 : Int) (x3 : Int) (m : jM) : Option jM :=
  ((jd_260 x1 x2 1 m).bind fun v40 => ((jd_263 v40 m).bind fun q42 => ((some (jms q42.2 76 62 q42.1)).bind fun m44 => (if (jw (m44 76 52)) = 0 then ((jd_260 x1 x2 2 m44).bind fun v47 => ((jd_263 v47 m44).bind fun q49 => ((some (jms q49.2 76 63 q49.1)).bind fun m51 => jd_265_b185 x1 x2 x3 m51))) else jd_265_b185 x1 x2 x3 m44))))
def jd_265_b66 (x1 : Int) (x2 : Int) (x3 : Int) (m : jM) : Option jM :=
  (if (jw (m 76 52)) ≤ 0 then ((jma m 102 x1).bind fun v20 => ((some (jms m 76 61 (jd_261 v20 (m 76 60)))).bind fun m22 => ((jd_265_l94 x1 x2 x3 0 m22).bind fun x27 => (if (jw (x27 76 61)) = (-1) then ((jd_264 x1 x2 x27).bind fun m30 => jd_265_b280 x1 x2 x3 m30) else (if (jw (x27 76 61)) = 3 then jd_265_b148 x1 x2 x3 x27 else (if (jw (x27 76 61)) = 5 then jd_265_b148 x1 x2 x3 x27 else jd_265_b185 x1 x2 x3 x27)))))) else some m)
def jd_265 (p0 : Int) (p1 : Int) (m : jM) : Option jM :=
  ((some (jms m 76 59 0)).bind fun m1 => ((some (jms m1 76 62 0)).bind fun m3 => ((some (jms m3 76 63 0)).bind fun m5 => ((some (jms m5 76 64 0)).bind fun m7 => ((some (jms m7 76 65 0)).bind fun m9 => ((jd_229 m9).bind fun q11 => ((some (jms q11.2 76 60 q11.1)).bind fun m13 => (if (jw (m13 76 52)) = 0 then ((jma m13 102 p0).bind fun v16 => (if (jw (m13 76 60)) < (jw (jd_262 v16)) then jd_265_b66 p0 p1 (m 76 51) m13 else ((jd_231 2 m13).bind fun m78 => jd_265_b66 p0 p1 (m 76 51) m78))) else jd_265_b66 p0 p1 (m 76 51) m13))))))))
def jd_268_s2 (x1 : Int) (x2 : Int) (x3 : Int) (m : jM) : Option ((Int × jM) ⊕ jM) :=
  (if 7 ≤ (jw x3) then some (.inr m) else ((jmw m 111 (((63 * x1) + (7 * x2)) + x3) (-1)).bind fun m2 => some (.inl ((x3 + 1), m2))))
def jd_268_l2 (x1 : Int) (x2 : Int) (x3 : Int) (m : jM) : Option jM :=
  jlp (fun s : (Int × jM) => jd_268_s2 x1 x2 s.1 s.2) jfu (x3, m)
def jd_268_s47 (x1 : Int) (x2 : Int) (x3 : Int) (x4 : Int) (x5 : Int) (m : jM) : Option ((Int × jM) ⊕ jM) :=
  (if (jw (x4 * x4)) ≤ (jw x5) then some (.inr m) else ((jd_245 x2 m).bind fun v8 => ((jnz x4).bind fun u10 => ((jd_246 x2 m).bind fun v12 => ((jnz x4).bind fun u14 => ((jd_240 x1 m).bind fun v16 => ((jd_241 x1 x3 ((x4 * v8) + (jrem x5 x4)) ((x4 * v12) + (jdiv x5 x4)) v16 m).bind fun m18 => some (.inl ((x5 + 1), m18)))))))))
def jd_268_l47 (x1 : Int) (x2 : Int) (x3 : Int) (x4 : Int) (x5 : Int) (m : jM) : Option jM :=
  jlp (fun s : (Int × jM) => jd_268_s47 x1 x2 x3 x4 s.1 s.2) jfu (x5, m)
def jd_268_s33 (x1 : Int) (x2 : Int) (x3 : Int) (m : jM) : Option ((Int × jM) ⊕ jM) :=
  (if 3 ≤ (jw x3) then some (.inr m) else ((jd_268_l47 x1 x2 x3 (jd_243 x3) 0 m).bind fun x20 => some (.inl ((x3 + 1), x20))))
def jd_268_l33 (x1 : Int) (x2 : Int) (x3 : Int) (m : jM) : Option jM :=
  jlp (fun s : (Int × jM) => jd_268_s33 x1 x2 s.1 s.2) jfu (x3, m)
def jd_268 (p0 : Int) (p1 : Int) (m : jM) : Option jM :=
  ((jd_268_l2 p0 p1 0 m).bind fun x4 => ((jd_268_l33 p0 p1 0 x4).bind fun x22 => some x22))
def jd_269_s28 (x1 : Int) (m : jM) : Option ((Int × jM) ⊕ (Int × jM)) :=
  (if (jw x1) = 0 then some (.inr (x1, m)) else (if (jw (m 76 50)) ≤ (jw (m 76 51)) then some (.inr (x1, m)) else ((jd_227 m).bind fun q6 => ((some (if (jw q6.1) = 0 then 1 else 0)).bind fun z8 => some (.inl (z8, q6.2))))))
def jd_269_l28 (x1 : Int) (m : jM) : Option (Int × jM) :=
  jlp (fun s : (Int × jM) => jd_269_s28 s.1 s.2) jfu (x1, m)
def jd_269_b69  (m : jM) : Option jM :=
  some m
def jd_269  (m : jM) : Option jM :=
  (if (jw (m 76 52)) ≤ 0 then ((some (if 8 ≤ (jw ((m 76 50) - (m 76 51))) then 0 else 1)).bind fun z2 => ((jd_269_l28 z2 m).bind fun x12 => (if (jw x12.1) = 0 then ((jd_231 6 x12.2).bind fun m15 => jd_269_b69  m15) else jd_269_b69  x12.2))) else some m)
def jd_270_s2 (x1 : Int) (x2 : Int) (m : jM) : Option ((Int × jM) ⊕ (Int × jM)) :=
  (if (jw (jd_238 m)) ≤ (jw x2) then some (.inr (x2, m)) else (if (jw (m 76 52)) = 0 then ((jd_265 x1 x2 m).bind fun m3 => some (.inl ((if (jw (m3 76 52)) = 0 then (x2 + 1) else x2), m3))) else some (.inr (x2, m))))
def jd_270_l2 (x1 : Int) (x2 : Int) (m : jM) : Option (Int × jM) :=
  jlp (fun s : (Int × jM) => jd_270_s2 x1 s.1 s.2) jfu (x2, m)
def jd_270_b94  (m : jM) : Option jM :=
  some m
def jd_270_s52 (x1 : Int) (x3 : Int) (m : jM) : Option ((Int × jM) ⊕ jM) :=
  (if (jw (jd_238 m)) ≤ (jw x3) then some (.inr m) else ((jd_268 x1 x3 m).bind fun m18 => some (.inl ((x3 + 1), m18))))
def jd_270_l52 (x1 : Int) (x3 : Int) (m : jM) : Option jM :=
  jlp (fun s : (Int × jM) => jd_270_s52 x1 s.1 s.2) jfu (x3, m)
def jd_270 (p0 : Int) (m : jM) : Option jM :=
  ((jd_270_l2 p0 0 m).bind fun x7 => (if (jw (x7.2 76 52)) ≤ 0 then ((jd_269 x7.2).bind fun m10 => (if (jw (m10 76 52)) ≤ 0 then jd_270_b94  m10 else ((jmw m10 108 p0 (jd_238 m10)).bind fun m13 => jd_270_b94  m13))) else ((jmw x7.2 108 p0 x7.1).bind fun m15 => ((jd_270_l52 p0 x7.1 m15).bind fun x20 => some x20))))
def jd_271_s6 (x1 : Int) (x2 : Int) (x3 : Int) (m : jM) : Option ((Int × jM) ⊕ jM) :=
  (if (jw x2) ≤ (jw x3) then some (.inr m) else ((jma m 119 x3).bind fun v2 => ((jma m 119 (x2 + (if (jw x3) = 0 then 0 else (x3 - 1)))).bind fun v4 => ((jma m 119 (x2 + x3)).bind fun v6 => ((jmw m 120 (2 * x3) (v2 - (jshr ((v4 + v6) + 2) 2))).bind fun m8 => some (.inl ((x3 + 1), m8)))))))
def jd_271_l6 (x1 : Int) (x2 : Int) (x3 : Int) (m : jM) : Option jM :=
  jlp (fun s : (Int × jM) => jd_271_s6 x1 x2 s.1 s.2) jfu (x3, m)
def jd_271_b119 (x1 : Int) (x2 : Int) (x3 : Int) (y0 : Int) (y2 : Int) (y3 : Int) (y4 : Int) (m : jM) : Option ((Int × jM) ⊕ jM) :=
  ((jma m 120 y0).bind fun v19 => ((jmw m 120 y4 (y3 + (jshr (y2 + v19) 1))).bind fun m21 => some (.inl ((x3 + 1), m21))))
def jd_271_s65 (x1 : Int) (x2 : Int) (x3 : Int) (m : jM) : Option ((Int × jM) ⊕ jM) :=
  (if (jw x2) ≤ (jw x3) then some (.inr m) else ((jma m 119 (x2 + x3)).bind fun v15 => ((jma m 120 (2 * x3)).bind fun v17 => jd_271_b119 x1 x2 x3 (if (jw ((2 * x3) + 2)) = (jw x1) then (x1 - 2) else ((2 * x3) + 2)) v17 v15 ((2 * x3) + 1) m)))
def jd_271_l65 (x1 : Int) (x2 : Int) (x3 : Int) (m : jM) : Option jM :=
  jlp (fun s : (Int × jM) => jd_271_s65 x1 x2 s.1 s.2) jfu (x3, m)
def jd_271_s133 (x1 : Int) (x3 : Int) (m : jM) : Option ((Int × jM) ⊕ jM) :=
  (if (jw x1) ≤ (jw x3) then some (.inr m) else ((jma m 120 x3).bind fun v28 => ((jmw m 119 x3 v28).bind fun m30 => some (.inl ((x3 + 1), m30)))))
def jd_271_l133 (x1 : Int) (x3 : Int) (m : jM) : Option jM :=
  jlp (fun s : (Int × jM) => jd_271_s133 x1 s.1 s.2) jfu (x3, m)
def jd_271 (p0 : Int) (m : jM) : Option jM :=
  ((jd_271_l6 p0 (jdiv p0 2) 0 m).bind fun x12 => ((jd_271_l65 p0 (jdiv p0 2) 0 x12).bind fun x25 => ((jd_271_l133 p0 0 x25).bind fun x32 => some x32)))
def jd_272_b60 (x1 : Int) (x2 : Int) (x3 : Int) (y0 : Int) (y2 : Int) (y3 : Int) (y4 : Int) (m : jM) : Option ((Int × jM) ⊕ jM) :=
  ((jma m 119 y0).bind fun v6 => ((jmw m 120 y4 (y3 - (jshr (y2 + v6) 1))).bind fun m8 => some (.inl ((x3 + 1), m8))))
def jd_272_s6 (x1 : Int) (x2 : Int) (x3 : Int) (m : jM) : Option ((Int × jM) ⊕ jM) :=
  (if (jw x2) ≤ (jw x3) then some (.inr m) else ((jma m 119 ((2 * x3) + 1)).bind fun v2 => ((jma m 119 (2 * x3)).bind fun v4 => jd_272_b60 x1 x2 x3 (if (jw ((2 * x3) + 2)) = (jw x1) then (x1 - 2) else ((2 * x3) + 2)) v4 v2 (x2 + x3) m)))
def jd_272_l6 (x1 : Int) (x2 : Int) (x3 : Int) (m : jM) : Option jM :=
  jlp (fun s : (Int × jM) => jd_272_s6 x1 x2 s.1 s.2) jfu (x3, m)
def jd_272_s74 (x1 : Int) (x2 : Int) (x3 : Int) (m : jM) : Option ((Int × jM) ⊕ jM) :=
  (if (jw x2) ≤ (jw x3) then some (.inr m) else ((jma m 119 (2 * x3)).bind fun v15 => ((jma m 120 (x2 + (if (jw x3) = 0 then 0 else (x3 - 1)))).bind fun v17 => ((jma m 120 (x2 + x3)).bind fun v19 => ((jmw m 120 x3 (v15 + (jshr ((v17 + v19) + 2) 2))).bind fun m21 => some (.inl ((x3 + 1), m21)))))))
def jd_272_l74 (x1 : Int) (x2 : Int) (x3 : Int) (m : jM) : Option jM :=
  jlp (fun s : (Int × jM) => jd_272_s74 x1 x2 s.1 s.2) jfu (x3, m)
def jd_272_s133 (x1 : Int) (x3 : Int) (m : jM) : Option ((Int × jM) ⊕ jM) :=
  (if (jw x1) ≤ (jw x3) then some (.inr m) else ((jma m 120 x3).bind fun v28 => ((jmw m 119 x3 v28).bind fun m30 => some (.inl ((x3 + 1), m30)))))
def jd_272_l133 (x1 : Int) (x3 : Int) (m : jM) : Option jM :=
  jlp (fun s : (Int × jM) => jd_272_s133 x1 s.1 s.2) jfu (x3, m)
def jd_272 (p0 : Int) (m : jM) : Option jM :=
  ((jd_272_l6 p0 (jdiv p0 2) 0 m).bind fun x12 => ((jd_272_l74 p0 (jdiv p0 2) 0 x12).bind fun x25 => ((jd_272_l133 p0 0 x25).bind fun x32 => some x32)))
def jd_273_s33 (x1 : Int) (x2 : Int) (x3 : Int) (x4 : Int) (x5 : Int) (x6 : Int) (x7 : Int) (x8 : Int) (m : jM) : Option ((Int × jM) ⊕ jM) :=
  (if (jw x6) ≤ (jw x8) then some (.inr m) else ((jma m 118 (if (jw x4) = 0 then ((x1 * x8) + x7) else ((x1 * x7) + x8))).bind fun v5 => ((jmw m 119 x8 v5).bind fun m7 => some (.inl ((x8 + 1), m7)))))
def jd_273_l33 (x1 : Int) (x2 : Int) (x3 : Int) (x4 : Int) (x5 : Int) (x6 : Int) (x7 : Int) (x8 : Int) (m : jM) : Option jM :=
  jlp (fun s : (Int × jM) => jd_273_s33 x1 x2 x3 x4 x5 x6 x7 s.1 s.2) jfu (x8, m)
def jd_273_s103 (x1 : Int) (x2 : Int) (x3 : Int) (x4 : Int) (x5 : Int) (x6 : Int) (x7 : Int) (x8 : Int) (m : jM) : Option ((Int × jM) ⊕ jM) :=
  (if (jw x6) ≤ (jw x8) then some (.inr m) else ((jma m 119 x8).bind fun v17 => ((jmw m 118 (if (jw x4) = 0 then ((x1 * x8) + x7) else ((x1 * x7) + x8)) v17).bind fun m19 => some (.inl ((x8 + 1), m19)))))
def jd_273_l103 (x1 : Int) (x2 : Int) (x3 : Int) (x4 : Int) (x5 : Int) (x6 : Int) (x7 : Int) (x8 : Int) (m : jM) : Option jM :=
  jlp (fun s : (Int × jM) => jd_273_s103 x1 x2 x3 x4 x5 x6 x7 s.1 s.2) jfu (x8, m)
def jd_273_b100 (x1 : Int) (x2 : Int) (x3 : Int) (x4 : Int) (x5 : Int) (x6 : Int) (x7 : Int) (m : jM) : Option ((Int × jM) ⊕ jM) :=
  ((jd_273_l103 x1 x2 x3 x4 x5 x6 x7 0 m).bind fun x23 => some (.inl ((x7 + 1), x23)))
def jd_273_s15 (x1 : Int) (x2 : Int) (x3 : Int) (x4 : Int) (x5 : Int) (x6 : Int) (x7 : Int) (m : jM) : Option ((Int × jM) ⊕ jM) :=
  (if (jw (if (jw x4) = 0 then x2 else x3)) ≤ (jw x7) then some (.inr m) else ((jd_273_l33 x1 x2 x3 x4 x5 x6 x7 0 m).bind fun x11 => (if (jw x5) = 0 then ((jd_272 x6 x11).bind fun m14 => jd_273_b100 x1 x2 x3 x4 x5 x6 x7 m14) else ((jd_271 x6 x11).bind fun m25 => jd_273_b100 x1 x2 x3 x4 x5 x6 x7 m25))))
def jd_273_l15 (x1 : Int) (x2 : Int) (x3 : Int) (x4 : Int) (x5 : Int) (x6 : Int) (x7 : Int) (m : jM) : Option jM :=
  jlp (fun s : (Int × jM) => jd_273_s15 x1 x2 x3 x4 x5 x6 s.1 s.2) jfu (x7, m)
def jd_273 (p0 : Int) (p1 : Int) (p2 : Int) (p3 : Int) (p4 : Int) (m : jM) : Option jM :=
  ((some (if (jw p3) = 0 then p2 else p1)).bind fun z1 => ((jd_273_l15 p0 p1 p2 p3 p4 z1 0 m).bind fun x29 => some x29))
def jd_274_s79 (x1 : Int) (x2 : Int) (x3 : Int) (x4 : Int) (x5 : Int) (x6 : Int) (x7 : Int) (m : jM) : Option ((Int × jM) ⊕ jM) :=
  (if (jw x6) ≤ (jw x7) then some (.inr m) else ((jmw m 118 (x5 + x7) 0).bind fun m9 => some (.inl ((x7 + 1), m9))))
def jd_274_l79 (x1 : Int) (x2 : Int) (x3 : Int) (x4 : Int) (x5 : Int) (x6 : Int) (x7 : Int) (m : jM) : Option jM :=
  jlp (fun s : (Int × jM) => jd_274_s79 x1 x2 x3 x4 x5 x6 s.1 s.2) jfu (x7, m)
def jd_274_b161 (x1 : Int) (x2 : Int) (x3 : Int) (x4 : Int) (x5 : Int) (x7 : Int) (m : jM) : Option ((Int × jM) ⊕ (jM ⊕ (jM ⊕ jM))) :=
  (if (jw (m 76 52)) ≤ 0 then ((jmw m 118 x5 x7).bind fun m21 => some (.inl ((x5 + 1), m21))) else some (.inr (.inr (.inl m))))
def jd_274_b156 (x1 : Int) (x2 : Int) (x3 : Int) (x4 : Int) (x5 : Int) (x7 : Int) (m : jM) : Option ((Int × jM) ⊕ (jM ⊕ (jM ⊕ jM))) :=
  ((jd_231 5 m).bind fun m18 => jd_274_b161 x1 x2 x3 x4 x5 x7 m18)
def jd_274_b68 (x1 : Int) (x2 : Int) (x3 : Int) (x4 : Int) (x5 : Int) (x6 : Int) (m : jM) : Option ((Int × jM) ⊕ (jM ⊕ (jM ⊕ jM))) :=
  (if (jw (m 76 52)) ≤ 0 then ((jd_274_l79 x1 x2 x3 x4 x5 x6 0 m).bind fun x11 => (if (jw (x5 + x6)) = (jw (x3 * x4)) then some (.inl ((x5 + x6), x11)) else ((jd_230 x11).bind fun q14 => (if (jw (q14.2 76 52)) = 0 then (if (jw q14.1) = 0 then jd_274_b156 x1 x2 x3 x4 (x5 + x6) q14.1 q14.2 else (if (jw q14.1) < (-4095) then jd_274_b156 x1 x2 x3 x4 (x5 + x6) q14.1 q14.2 else (if (jw q14.1) ≤ 4095 then jd_274_b161 x1 x2 x3 x4 (x5 + x6) q14.1 q14.2 else jd_274_b156 x1 x2 x3 x4 (x5 + x6) q14.1 q14.2))) else jd_274_b161 x1 x2 x3 x4 (x5 + x6) q14.1 q14.2)))) else some (.inr (.inl m)))
def jd_274_s22 (x1 : Int) (x2 : Int) (x3 : Int) (x4 : Int) (x5 : Int) (m : jM) : Option ((Int × jM) ⊕ (jM ⊕ (jM ⊕ jM))) :=
  (if (jw (x3 * x4)) ≤ (jw x5) then some (.inr (.inr (.inr m))) else (if (jw (m 76 52)) = 0 then ((jd_229 m).bind fun q3 => (if (jw (q3.2 76 52)) = 0 then (if (jw (x5 + q3.1)) ≤ (jw (x3 * x4)) then jd_274_b68 x1 x2 x3 x4 x5 q3.1 q3.2 else ((jd_231 4 q3.2).bind fun m25 => jd_274_b68 x1 x2 x3 x4 x5 q3.1 m25)) else jd_274_b68 x1 x2 x3 x4 x5 q3.1 q3.2)) else some (.inr (.inr (.inr m)))))
def jd_274_l22 (x1 : Int) (x2 : Int) (x3 : Int) (x4 : Int) (x5 : Int) (m : jM) : Option (jM ⊕ (jM ⊕ jM)) :=
  jlp (fun s : (Int × jM) => jd_274_s22 x1 x2 x3 x4 s.1 s.2) jfu (x5, m)
def jd_274_s235 (x1 : Int) (x2 : Int) (x3 : Int) (x4 : Int) (x6 : Int) (m : jM) : Option ((Int × jM) ⊕ jM) :=
  (if (jw (x3 * x4)) ≤ (jw x6) then some (.inr m) else ((jma m 118 x6).bind fun v42 => ((jmw m 109 (((864 * x1) + (jd_207 x2)) + x6) (jd_205 (jw v42) 0 255)).bind fun m44 => some (.inl ((x6 + 1), m44)))))
def jd_274_l235 (x1 : Int) (x2 : Int) (x3 : Int) (x4 : Int) (x6 : Int) (m : jM) : Option jM :=
  jlp (fun s : (Int × jM) => jd_274_s235 x1 x2 x3 x4 s.1 s.2) jfu (x6, m)
def jd_274 (p0 : Int) (p1 : Int) (m : jM) : Option jM :=
  ((jd_274_l22 p0 p1 (jd_206 (m 76 33) p1) (jd_206 (m 76 34) p1) 0 m).bind fun x27 => jse x27 (fun y29 => some y29) (fun y30 => jse y30 (fun y31 => some y31) (fun y32 => ((jd_273 (jd_206 (m 76 33) p1) (jdiv (jd_206 (m 76 33) p1) 2) (jdiv (jd_206 (m 76 34) p1) 2) 0 1 y32).bind fun m33 => ((jd_273 (jd_206 (m 76 33) p1) (jdiv (jd_206 (m 76 33) p1) 2) (jdiv (jd_206 (m 76 34) p1) 2) 1 1 m33).bind fun m35 => ((jd_273 (jd_206 (m 76 33) p1) (jd_206 (m 76 33) p1) (jd_206 (m 76 34) p1) 0 1 m35).bind fun m37 => ((jd_273 (jd_206 (m 76 33) p1) (jd_206 (m 76 33) p1) (jd_206 (m 76 34) p1) 1 1 m37).bind fun m39 => ((jd_274_l235 p0 p1 (jd_206 (m 76 33) p1) (jd_206 (m 76 34) p1) 0 m39).bind fun x46 => some x46))))))))
def jd_275_s2 (x1 : Int) (x2 : Int) (m : jM) : Option ((Int × jM) ⊕ (Int × jM)) :=
  (if 3 ≤ (jw x2) then some (.inr (x2, m)) else (if (jw (m 76 52)) = 0 then ((jd_274 x1 x2 m).bind fun m3 => some (.inl ((if (jw (m3 76 52)) = 0 then (x2 + 1) else x2), m3))) else some (.inr (x2, m))))
def jd_275_l2 (x1 : Int) (x2 : Int) (m : jM) : Option (Int × jM) :=
  jlp (fun s : (Int × jM) => jd_275_s2 x1 s.1 s.2) jfu (x2, m)
def jd_275_b139  (m : jM) : Option jM :=
  some m
def jd_275_s57 (x1 : Int) (x3 : Int) (x4 : Int) (m : jM) : Option ((Int × jM) ⊕ jM) :=
  (if (jw ((jd_206 (m 76 33) x3) * (jd_206 (m 76 34) x3))) ≤ (jw x4) then some (.inr m) else ((jnz (jd_206 (m 76 33) x3)).bind fun u19 => ((jnz (jd_206 (m 76 33) x3)).bind fun u21 => ((jd_241 x1 x3 (jrem x4 (jd_206 (m 76 33) x3)) (jdiv x4 (jd_206 (m 76 33) x3)) (-1) m).bind fun m23 => some (.inl ((x4 + 1), m23))))))
def jd_275_l57 (x1 : Int) (x3 : Int) (x4 : Int) (m : jM) : Option jM :=
  jlp (fun s : (Int × jM) => jd_275_s57 x1 x3 s.1 s.2) jfu (x4, m)
def jd_275_s49 (x1 : Int) (x3 : Int) (m : jM) : Option ((Int × jM) ⊕ jM) :=
  (if 3 ≤ (jw x3) then some (.inr m) else ((jd_275_l57 x1 x3 0 m).bind fun x25 => some (.inl ((x3 + 1), x25))))
def jd_275_l49 (x1 : Int) (x3 : Int) (m : jM) : Option jM :=
  jlp (fun s : (Int × jM) => jd_275_s49 x1 s.1 s.2) jfu (x3, m)
def jd_275 (p0 : Int) (m : jM) : Option jM :=
  ((jd_275_l2 p0 0 m).bind fun x7 => (if (jw (x7.2 76 52)) ≤ 0 then ((jd_269 x7.2).bind fun m10 => (if (jw (m10 76 52)) ≤ 0 then jd_275_b139  m10 else ((jmw m10 108 p0 3).bind fun m13 => jd_275_b139  m13))) else ((jmw x7.2 108 p0 x7.1).bind fun m15 => ((jd_275_l49 p0 x7.1 m15).bind fun x27 => some x27))))
def jd_276_b274 (x1 : Int) (x2 : Int) (x3 : Int) (x4 : Int) (x5 : Int) (x6 : Int) (x7 : Int) (x8 : Int) (x9 : Int) (x10 : Int) (y0 : Int) (y1 : Int) (m : jM) : Option ((Int × Int × jM) ⊕ (jM ⊕ (Int × jM))) :=
  ((jmw m 109 y1 y0).bind fun m33 => ((some (jms m33 76 69 ((m33 76 69) + 1))).bind fun m35 => some (.inl ((x6 + 1), (x10 + 1), m35))))
def jd_276_b200 (x1 : Int) (x2 : Int) (x3 : Int) (x4 : Int) (x5 : Int) (x6 : Int) (x7 : Int) (x8 : Int) (x9 : Int) (x10 : Int) (y0 : Int) (m : jM) : Option ((Int × Int × jM) ⊕ (jM ⊕ (Int × jM))) :=
  (if (jw (m 76 52)) ≤ 0 then (if (jw x7) = 1 then ((jd_239 x1 1 m).bind fun v29 => ((jma m 109 (((864 * v29) + (jd_207 x2)) + x6)).bind fun v31 => jd_276_b274 x1 x2 x3 x4 x5 x6 x7 x8 x9 x10 v31 (x5 + x6) m)) else (if (jw x7) = 2 then ((jma m 109 ((x5 + x6) - x3)).bind fun v38 => jd_276_b274 x1 x2 x3 x4 x5 x6 x7 x8 x9 x10 v38 (x5 + x6) m) else jd_276_b274 x1 x2 x3 x4 x5 x6 x7 x8 x9 x10 y0 (x5 + x6) m)) else some (.inr (.inl m)))
def jd_276_s169 (x1 : Int) (x2 : Int) (x3 : Int) (x4 : Int) (x5 : Int) (x7 : Int) (x8 : Int) (x9 : Int) (x6 : Int) (x10 : Int) (m : jM) : Option ((Int × Int × jM) ⊕ (jM ⊕ (Int × jM))) :=
  (if (jw x8) ≤ (jw x10) then some (.inr (.inr (x6, m))) else (if (jw (m 76 52)) = 0 then (if (jw x7) = 3 then ((jd_228 8 m).bind fun q25 => jd_276_b200 x1 x2 x3 x4 x5 x6 x7 x8 x9 x10 q25.1 q25.2) else jd_276_b200 x1 x2 x3 x4 x5 x6 x7 x8 x9 x10 x9 m) else some (.inr (.inr (x6, m)))))
def jd_276_l169 (x1 : Int) (x2 : Int) (x3 : Int) (x4 : Int) (x5 : Int) (x7 : Int) (x8 : Int) (x9 : Int) (x6 : Int) (x10 : Int) (m : jM) : Option (jM ⊕ (Int × jM)) :=
  jlp (fun s : (Int × Int × jM) => jd_276_s169 x1 x2 x3 x4 x5 x7 x8 x9 s.1 s.2.1 s.2.2) jfu (x6, x10, m)
def jd_276_b164 (x1 : Int) (x2 : Int) (x3 : Int) (x4 : Int) (x5 : Int) (x6 : Int) (x7 : Int) (x8 : Int) (y0 : Int) (m : jM) : Option ((Int × jM) ⊕ (jM ⊕ jM)) :=
  ((jd_276_l169 x1 x2 x3 x4 x5 x7 x8 y0 x6 0 m).bind fun x40 => jse x40 (fun y42 => some (.inr (.inl y42))) (fun y43 => some (.inl (y43.1, y43.2))))
def jd_276_b163 (x1 : Int) (x2 : Int) (x3 : Int) (x4 : Int) (x5 : Int) (x6 : Int) (x7 : Int) (x8 : Int) (m : jM) : Option ((Int × jM) ⊕ (jM ⊕ jM)) :=
  jd_276_b164 x1 x2 x3 x4 x5 x6 x7 x8 0 m
def jd_276_b142 (x1 : Int) (x2 : Int) (x3 : Int) (x4 : Int) (x5 : Int) (x6 : Int) (x7 : Int) (x8 : Int) (m : jM) : Option ((Int × jM) ⊕ (jM ⊕ jM)) :=
  (if (jw (m 76 52)) = 0 then (if (jw x7) = 0 then ((jd_228 8 m).bind fun q20 => jd_276_b164 x1 x2 x3 x4 x5 x6 x7 x8 q20.1 q20.2) else jd_276_b163 x1 x2 x3 x4 x5 x6 x7 x8 m) else jd_276_b163 x1 x2 x3 x4 x5 x6 x7 x8 m)
def jd_276_b137 (x1 : Int) (x2 : Int) (x3 : Int) (x4 : Int) (x5 : Int) (x6 : Int) (x7 : Int) (x8 : Int) (m : jM) : Option ((Int × jM) ⊕ (jM ⊕ jM)) :=
  ((jd_231 4 m).bind fun m16 => jd_276_b142 x1 x2 x3 x4 x5 x6 x7 x8 m16)
def jd_276_b106 (x1 : Int) (x2 : Int) (x3 : Int) (x4 : Int) (x5 : Int) (x6 : Int) (x7 : Int) (y0 : Int) (m : jM) : Option ((Int × jM) ⊕ (jM ⊕ jM)) :=
  (if (jw (m 76 52)) = 0 then (if (jw x4) < (jw (x6 + y0)) then jd_276_b137 x1 x2 x3 x4 x5 x6 x7 y0 m else (if (jw x7) = 2 then (if (jw x3) ≤ (jw x6) then jd_276_b142 x1 x2 x3 x4 x5 x6 x7 y0 m else jd_276_b137 x1 x2 x3 x4 x5 x6 x7 y0 m) else jd_276_b142 x1 x2 x3 x4 x5 x6 x7 y0 m)) else jd_276_b142 x1 x2 x3 x4 x5 x6 x7 y0 m)
def jd_276_b89 (x1 : Int) (x2 : Int) (x3 : Int) (x4 : Int) (x5 : Int) (x6 : Int) (x7 : Int) (m : jM) : Option ((Int × jM) ⊕ (jM ⊕ jM)) :=
  (if (jw (m 76 52)) = 0 then ((jd_229 m).bind fun q12 => jd_276_b106 x1 x2 x3 x4 x5 x6 x7 (q12.1 + 1) q12.2) else jd_276_b106 x1 x2 x3 x4 x5 x6 x7 0 m)
def jd_276_b84 (x1 : Int) (x2 : Int) (x3 : Int) (x4 : Int) (x5 : Int) (x6 : Int) (x7 : Int) (m : jM) : Option ((Int × jM) ⊕ (jM ⊕ jM)) :=
  ((jd_231 2 m).bind fun m9 => jd_276_b89 x1 x2 x3 x4 x5 x6 x7 m9)
def jd_276_s36 (x1 : Int) (x2 : Int) (x3 : Int) (x4 : Int) (x5 : Int) (x6 : Int) (m : jM) : Option ((Int × jM) ⊕ (jM ⊕ jM)) :=
  (if (jw x4) ≤ (jw x6) then some (.inr (.inr m)) else (if (jw (m 76 52)) = 0 then ((jd_229 m).bind fun q5 => (if (jw (q5.2 76 52)) = 0 then (if 3 < (jw q5.1) then jd_276_b84 x1 x2 x3 x4 x5 x6 q5.1 q5.2 else (if (jw q5.1) = 1 then ((jma q5.2 102 x1).bind fun v47 => (if (jw v47) = 0 then jd_276_b84 x1 x2 x3 x4 x5 x6 q5.1 q5.2 else jd_276_b89 x1 x2 x3 x4 x5 x6 q5.1 q5.2)) else jd_276_b89 x1 x2 x3 x4 x5 x6 q5.1 q5.2)) else jd_276_b89 x1 x2 x3 x4 x5 x6 q5.1 q5.2)) else some (.inr (.inr m))))
