/-! the beginnings of the methods; how calls go on; small numbers -/
theorem n0 {d : Nat} {M : pm_Mem} {r : pm_Res} {a0 : Nat} : pm_C (d + 1) 0 [Value.ref a0] M r ↔ pm_R d 0 0 [some (Value.ref a0), none] [] M r := Iff.rfl
theorem n1 {d : Nat} {M : pm_Mem} {r : pm_Res} {a0 : Nat} {a1 : Int64} : pm_C (d + 1) 1 [Value.ref a0, Value.long a1] M r ↔ pm_R d 1 0 [some (Value.ref a0), some (Value.long a1), none, none, none, none] [] M r := Iff.rfl
theorem n2 {d : Nat} {M : pm_Mem} {r : pm_Res} {a0 : Int64} {a1 : Int32} : pm_C (d + 1) 2 [Value.long a0, Value.int a1] M r ↔ pm_R d 2 0 [some (Value.long a0), none, some (Value.int a1)] [] M r := Iff.rfl
theorem n3 {d : Nat} {M : pm_Mem} {r : pm_Res} {a0 : Nat} : pm_C (d + 1) 3 [Value.ref a0] M r ↔ pm_R d 3 0 [some (Value.ref a0)] [] M r := Iff.rfl
theorem n4 {d : Nat} {M : pm_Mem} {r : pm_Res} {a0 : Nat} : pm_C (d + 1) 4 [Value.ref a0] M r ↔ pm_R d 4 0 [some (Value.ref a0)] [] M r := Iff.rfl
theorem n5 {d : Nat} {M : pm_Mem} {r : pm_Res} {a0 : Nat} {a1 : Int32} {a2 : Int32} : pm_C (d + 1) 5 [Value.ref a0, Value.int a1, Value.int a2] M r ↔ pm_R d 5 0 [some (Value.ref a0), some (Value.int a1), some (Value.int a2)] [] M r := Iff.rfl
theorem n6 {d : Nat} {M : pm_Mem} {r : pm_Res} {a0 : Nat} {a1 : Int32} {a2 : Int32} : pm_C (d + 1) 6 [Value.ref a0, Value.int a1, Value.int a2] M r ↔ pm_R d 6 0 [some (Value.ref a0), some (Value.int a1), some (Value.int a2), none, none, none] [] M r := Iff.rfl
theorem n7 {d : Nat} {M : pm_Mem} {r : pm_Res} {a0 : Nat} {a1 : Int32} {a2 : Int32} : pm_C (d + 1) 7 [Value.ref a0, Value.int a1, Value.int a2] M r ↔ pm_R d 7 0 [some (Value.ref a0), some (Value.int a1), some (Value.int a2), none, none, none, none] [] M r := Iff.rfl
theorem n8 {d : Nat} {M : pm_Mem} {r : pm_Res} {a0 : Nat} {a1 : Int32} {a2 : Int32} : pm_C (d + 1) 8 [Value.ref a0, Value.int a1, Value.int a2] M r ↔ pm_R d 8 0 [some (Value.ref a0), some (Value.int a1), some (Value.int a2)] [] M r := Iff.rfl
theorem n9 {d : Nat} {M : pm_Mem} {r : pm_Res} {a0 : Nat} : pm_C (d + 1) 9 [Value.ref a0] M r ↔ pm_R d 9 0 [some (Value.ref a0)] [] M r := Iff.rfl
theorem n10 {d : Nat} {M : pm_Mem} {r : pm_Res} {a0 : Nat} {a1 : Int32} {a2 : Int32} : pm_C (d + 1) 10 [Value.ref a0, Value.int a1, Value.int a2] M r ↔ pm_R d 10 0 [some (Value.ref a0), some (Value.int a1), some (Value.int a2), none] [] M r := Iff.rfl
theorem n11 {d : Nat} {M : pm_Mem} {r : pm_Res} {a0 : Nat} {a1 : Int32} : pm_C (d + 1) 11 [Value.ref a0, Value.int a1] M r ↔ pm_R d 11 0 [some (Value.ref a0), some (Value.int a1)] [] M r := Iff.rfl
theorem n12 {d : Nat} {M : pm_Mem} {r : pm_Res} {a0 : Int32} : pm_C (d + 1) 12 [Value.int a0] M r ↔ pm_R d 12 0 [some (Value.int a0)] [] M r := Iff.rfl
theorem n13 {d : Nat} {M : pm_Mem} {r : pm_Res} {a0 : Int32} : pm_C (d + 1) 13 [Value.int a0] M r ↔ pm_R d 13 0 [some (Value.int a0)] [] M r := Iff.rfl
theorem n14 {d : Nat} {M : pm_Mem} {r : pm_Res} {a0 : Nat} {a1 : Int32} : pm_C (d + 1) 14 [Value.ref a0, Value.int a1] M r ↔ pm_R d 14 0 [some (Value.ref a0), some (Value.int a1), none] [] M r := Iff.rfl
theorem n15 {d : Nat} {M : pm_Mem} {r : pm_Res} {a0 : Nat} : pm_C (d + 1) 15 [Value.ref a0] M r ↔ pm_R d 15 0 [some (Value.ref a0)] [] M r := Iff.rfl
theorem n16 {d : Nat} {M : pm_Mem} {r : pm_Res} {a0 : Nat} {a1 : Int32} {a2 : Int32} : pm_C (d + 1) 16 [Value.ref a0, Value.int a1, Value.int a2] M r ↔ pm_R d 16 0 [some (Value.ref a0), some (Value.int a1), some (Value.int a2)] [] M r := Iff.rfl
theorem n17 {d : Nat} {M : pm_Mem} {r : pm_Res} {a0 : Nat} {a1 : Int32} {a2 : Int32} {a3 : Int32} : pm_C (d + 1) 17 [Value.ref a0, Value.int a1, Value.int a2, Value.int a3] M r ↔ pm_R d 17 0 [some (Value.ref a0), some (Value.int a1), some (Value.int a2), some (Value.int a3), none] [] M r := Iff.rfl
theorem n18 {d : Nat} {M : pm_Mem} {r : pm_Res} {a0 : Nat} {a1 : Int32} : pm_C (d + 1) 18 [Value.ref a0, Value.int a1] M r ↔ pm_R d 18 0 [some (Value.ref a0), some (Value.int a1)] [] M r := Iff.rfl
theorem n19 {d : Nat} {M : pm_Mem} {r : pm_Res} {a0 : Nat} {a1 : Int32} : pm_C (d + 1) 19 [Value.ref a0, Value.int a1] M r ↔ pm_R d 19 0 [some (Value.ref a0), some (Value.int a1)] [] M r := Iff.rfl
theorem n20 {d : Nat} {M : pm_Mem} {r : pm_Res} {a0 : Nat} {a1 : Int32} : pm_C (d + 1) 20 [Value.ref a0, Value.int a1] M r ↔ pm_R d 20 0 [some (Value.ref a0), some (Value.int a1), none] [] M r := Iff.rfl
theorem n21 {d : Nat} {M : pm_Mem} {r : pm_Res} {a0 : Nat} : pm_C (d + 1) 21 [Value.ref a0] M r ↔ pm_R d 21 0 [some (Value.ref a0)] [] M r := Iff.rfl
theorem n22 {d : Nat} {M : pm_Mem} {r : pm_Res} {a0 : Nat} : pm_C (d + 1) 22 [Value.ref a0] M r ↔ pm_R d 22 0 [some (Value.ref a0)] [] M r := Iff.rfl
theorem n23 {d : Nat} {M : pm_Mem} {r : pm_Res} {a0 : Nat} : pm_C (d + 1) 23 [Value.ref a0] M r ↔ pm_R d 23 0 [some (Value.ref a0)] [] M r := Iff.rfl
theorem n24 {d : Nat} {M : pm_Mem} {r : pm_Res} {a0 : Nat} {a1 : Int64} : pm_C (d + 1) 24 [Value.ref a0, Value.long a1] M r ↔ pm_R d 24 0 [some (Value.ref a0), some (Value.long a1), none, none, none, none, none] [] M r := Iff.rfl
theorem n25 {d : Nat} {M : pm_Mem} {r : pm_Res} {a0 : Nat} : pm_C (d + 1) 25 [Value.ref a0] M r ↔ pm_R d 25 0 [some (Value.ref a0)] [] M r := Iff.rfl
theorem n26 {d : Nat} {M : pm_Mem} {r : pm_Res} {a0 : Nat} : pm_C (d + 1) 26 [Value.ref a0] M r ↔ pm_R d 26 0 [some (Value.ref a0)] [] M r := Iff.rfl
theorem n27 {d : Nat} {M : pm_Mem} {r : pm_Res} {a0 : Nat} {a1 : Int32} : pm_C (d + 1) 27 [Value.ref a0, Value.int a1] M r ↔ pm_R d 27 0 [some (Value.ref a0), some (Value.int a1), none] [] M r := Iff.rfl
theorem n28 {d : Nat} {M : pm_Mem} {r : pm_Res} {a0 : Nat} {a1 : Int32} : pm_C (d + 1) 28 [Value.ref a0, Value.int a1] M r ↔ pm_R d 28 0 [some (Value.ref a0), some (Value.int a1)] [] M r := Iff.rfl
theorem n29 {d : Nat} {M : pm_Mem} {r : pm_Res} {a0 : Nat} {a1 : Int32} {a2 : Int32} : pm_C (d + 1) 29 [Value.ref a0, Value.int a1, Value.int a2] M r ↔ pm_R d 29 0 [some (Value.ref a0), some (Value.int a1), some (Value.int a2)] [] M r := Iff.rfl
theorem n30 {d : Nat} {M : pm_Mem} {r : pm_Res} {a0 : Int32} {a1 : Int32} {a2 : Int32} {a3 : Int32} {a4 : Int32} {a5 : Int32} {a6 : Int32} : pm_C (d + 1) 30 [Value.int a0, Value.int a1, Value.int a2, Value.int a3, Value.int a4, Value.int a5, Value.int a6] M r ↔ pm_R d 30 0 [some (Value.int a0), some (Value.int a1), some (Value.int a2), some (Value.int a3), some (Value.int a4), some (Value.int a5), some (Value.int a6)] [] M r := Iff.rfl
theorem n31 {d : Nat} {M : pm_Mem} {r : pm_Res} {a0 : Nat} : pm_C (d + 1) 31 [Value.ref a0] M r ↔ pm_R d 31 0 [some (Value.ref a0), none] [] M r := Iff.rfl
theorem n32 {d : Nat} {M : pm_Mem} {r : pm_Res} {a0 : Nat} {a1 : Int32} : pm_C (d + 1) 32 [Value.ref a0, Value.int a1] M r ↔ pm_R d 32 0 [some (Value.ref a0), some (Value.int a1)] [] M r := Iff.rfl
theorem n33 {d : Nat} {M : pm_Mem} {r : pm_Res} {a0 : Int32} : pm_C (d + 1) 33 [Value.int a0] M r ↔ pm_R d 33 0 [some (Value.int a0)] [] M r := Iff.rfl
theorem n34 {d : Nat} {M : pm_Mem} {r : pm_Res} {a0 : Int32} : pm_C (d + 1) 34 [Value.int a0] M r ↔ pm_R d 34 0 [some (Value.int a0)] [] M r := Iff.rfl
theorem n35 {d : Nat} {M : pm_Mem} {r : pm_Res} {a0 : Nat} : pm_C (d + 1) 35 [Value.ref a0] M r ↔ pm_R d 35 0 [some (Value.ref a0), none, none] [] M r := Iff.rfl
theorem n36 {d : Nat} {M : pm_Mem} {r : pm_Res} {a0 : Nat} {a1 : Int32} : pm_C (d + 1) 36 [Value.ref a0, Value.int a1] M r ↔ pm_R d 36 0 [some (Value.ref a0), some (Value.int a1), none] [] M r := Iff.rfl
theorem n37 {d : Nat} {M : pm_Mem} {r : pm_Res} {a0 : Int32} : pm_C (d + 1) 37 [Value.int a0] M r ↔ pm_R d 37 0 [some (Value.int a0)] [] M r := Iff.rfl
theorem n38 {d : Nat} {M : pm_Mem} {r : pm_Res} {a0 : Int32} : pm_C (d + 1) 38 [Value.int a0] M r ↔ pm_R d 38 0 [some (Value.int a0)] [] M r := Iff.rfl
theorem n39 {d : Nat} {M : pm_Mem} {r : pm_Res} {a0 : Nat} : pm_C (d + 1) 39 [Value.ref a0] M r ↔ pm_R d 39 0 [some (Value.ref a0)] [] M r := Iff.rfl
theorem n40 {d : Nat} {M : pm_Mem} {r : pm_Res} {a0 : Nat} {a1 : Int32} : pm_C (d + 1) 40 [Value.ref a0, Value.int a1] M r ↔ pm_R d 40 0 [some (Value.ref a0), some (Value.int a1)] [] M r := Iff.rfl
theorem n41 {d : Nat} {M : pm_Mem} {r : pm_Res} {a0 : Nat} {a1 : Int32} {a2 : Int32} : pm_C (d + 1) 41 [Value.ref a0, Value.int a1, Value.int a2] M r ↔ pm_R d 41 0 [some (Value.ref a0), some (Value.int a1), some (Value.int a2), none, none, none] [] M r := Iff.rfl
theorem n42 {d : Nat} {M : pm_Mem} {r : pm_Res} {a0 : Nat} {a1 : Int32} : pm_C (d + 1) 42 [Value.ref a0, Value.int a1] M r ↔ pm_R d 42 0 [some (Value.ref a0), some (Value.int a1), none, none, none] [] M r := Iff.rfl
theorem n43 {d : Nat} {M : pm_Mem} {r : pm_Res} {a0 : Nat} {a1 : Int32} : pm_C (d + 1) 43 [Value.ref a0, Value.int a1] M r ↔ pm_R d 43 0 [some (Value.ref a0), some (Value.int a1), none, none] [] M r := Iff.rfl
theorem n44 {d : Nat} {M : pm_Mem} {r : pm_Res} {a0 : Nat} : pm_C (d + 1) 44 [Value.ref a0] M r ↔ pm_R d 44 0 [some (Value.ref a0), none, none] [] M r := Iff.rfl
theorem n45 {d : Nat} {M : pm_Mem} {r : pm_Res} {a0 : Nat} : pm_C (d + 1) 45 [Value.ref a0] M r ↔ pm_R d 45 0 [some (Value.ref a0), none, none] [] M r := Iff.rfl
theorem n46 {d : Nat} {M : pm_Mem} {r : pm_Res} {a0 : Nat} {a1 : Int32} {a2 : Int32} : pm_C (d + 1) 46 [Value.ref a0, Value.int a1, Value.int a2] M r ↔ pm_R d 46 0 [some (Value.ref a0), some (Value.int a1), some (Value.int a2), none] [] M r := Iff.rfl
theorem n47 {d : Nat} {M : pm_Mem} {r : pm_Res} {a0 : Nat} {a1 : Int32} {a2 : Int32} : pm_C (d + 1) 47 [Value.ref a0, Value.int a1, Value.int a2] M r ↔ pm_R d 47 0 [some (Value.ref a0), some (Value.int a1), some (Value.int a2)] [] M r := Iff.rfl
theorem n48 {d : Nat} {M : pm_Mem} {r : pm_Res} {a0 : Int32} {a1 : Int32} : pm_C (d + 1) 48 [Value.int a0, Value.int a1] M r ↔ pm_R d 48 0 [some (Value.int a0), some (Value.int a1)] [] M r := Iff.rfl
theorem n49 {d : Nat} {M : pm_Mem} {r : pm_Res} {a0 : Int32} {a1 : Int32} : pm_C (d + 1) 49 [Value.int a0, Value.int a1] M r ↔ pm_R d 49 0 [some (Value.int a0), some (Value.int a1)] [] M r := Iff.rfl
theorem n50 {d : Nat} {M : pm_Mem} {r : pm_Res} {a0 : Nat} {a1 : Int32} : pm_C (d + 1) 50 [Value.ref a0, Value.int a1] M r ↔ pm_R d 50 0 [some (Value.ref a0), some (Value.int a1)] [] M r := Iff.rfl
theorem n51 {d : Nat} {M : pm_Mem} {r : pm_Res} {a0 : Nat} {a1 : Int32} {a2 : Int32} : pm_C (d + 1) 51 [Value.ref a0, Value.int a1, Value.int a2] M r ↔ pm_R d 51 0 [some (Value.ref a0), some (Value.int a1), some (Value.int a2), none, none, none, none] [] M r := Iff.rfl
theorem n52 {d : Nat} {M : pm_Mem} {r : pm_Res} {a0 : Nat} {a1 : Int32} {a2 : Int32} {a3 : Int32} : pm_C (d + 1) 52 [Value.ref a0, Value.int a1, Value.int a2, Value.int a3] M r ↔ pm_R d 52 0 [some (Value.ref a0), some (Value.int a1), some (Value.int a2), some (Value.int a3)] [] M r := Iff.rfl
theorem n53 {d : Nat} {M : pm_Mem} {r : pm_Res} {a0 : Int32} : pm_C (d + 1) 53 [Value.int a0] M r ↔ pm_R d 53 0 [some (Value.int a0)] [] M r := Iff.rfl
theorem n54 {d : Nat} {M : pm_Mem} {r : pm_Res} {a0 : Int32} {a1 : Int32} {a2 : Int32} : pm_C (d + 1) 54 [Value.int a0, Value.int a1, Value.int a2] M r ↔ pm_R d 54 0 [some (Value.int a0), some (Value.int a1), some (Value.int a2)] [] M r := Iff.rfl
theorem n55 {d : Nat} {M : pm_Mem} {r : pm_Res} {a0 : Nat} {a1 : Int32} {a2 : Int32} {a3 : Int32} {a4 : Int32} : pm_C (d + 1) 55 [Value.ref a0, Value.int a1, Value.int a2, Value.int a3, Value.int a4] M r ↔ pm_R d 55 0 [some (Value.ref a0), some (Value.int a1), some (Value.int a2), some (Value.int a3), some (Value.int a4), none] [] M r := Iff.rfl
theorem n56 {d : Nat} {M : pm_Mem} {r : pm_Res} {a0 : Nat} {a1 : Int32} {a2 : Int32} {a3 : Int32} : pm_C (d + 1) 56 [Value.ref a0, Value.int a1, Value.int a2, Value.int a3] M r ↔ pm_R d 56 0 [some (Value.ref a0), some (Value.int a1), some (Value.int a2), some (Value.int a3), none, none, none, none, none] [] M r := Iff.rfl
theorem n57 {d : Nat} {M : pm_Mem} {r : pm_Res} {a0 : Nat} {a1 : Int32} : pm_C (d + 1) 57 [Value.ref a0, Value.int a1] M r ↔ pm_R d 57 0 [some (Value.ref a0), some (Value.int a1), none] [] M r := Iff.rfl
theorem n58 {d : Nat} {M : pm_Mem} {r : pm_Res} {a0 : Nat} {a1 : Int32} {a2 : Int32} {a3 : Int32} : pm_C (d + 1) 58 [Value.ref a0, Value.int a1, Value.int a2, Value.int a3] M r ↔ pm_R d 58 0 [some (Value.ref a0), some (Value.int a1), some (Value.int a2), some (Value.int a3)] [] M r := Iff.rfl
theorem n59 {d : Nat} {M : pm_Mem} {r : pm_Res} {a0 : Nat} {a1 : Int32} : pm_C (d + 1) 59 [Value.ref a0, Value.int a1] M r ↔ pm_R d 59 0 [some (Value.ref a0), some (Value.int a1), none, none, none] [] M r := Iff.rfl
theorem n60 {d : Nat} {M : pm_Mem} {r : pm_Res} {a0 : Nat} {a1 : Int32} {a2 : Int32} : pm_C (d + 1) 60 [Value.ref a0, Value.int a1, Value.int a2] M r ↔ pm_R d 60 0 [some (Value.ref a0), some (Value.int a1), some (Value.int a2), none, none] [] M r := Iff.rfl
theorem n61 {d : Nat} {M : pm_Mem} {r : pm_Res} {a0 : Nat} {a1 : Int32} {a2 : Int32} : pm_C (d + 1) 61 [Value.ref a0, Value.int a1, Value.int a2] M r ↔ pm_R d 61 0 [some (Value.ref a0), some (Value.int a1), some (Value.int a2), none, none] [] M r := Iff.rfl
theorem n62 {d : Nat} {M : pm_Mem} {r : pm_Res} {a0 : Nat} {a1 : Int32} {a2 : Int32} : pm_C (d + 1) 62 [Value.ref a0, Value.int a1, Value.int a2] M r ↔ pm_R d 62 0 [some (Value.ref a0), some (Value.int a1), some (Value.int a2), none, none, none, none, none] [] M r := Iff.rfl
theorem n63 {d : Nat} {M : pm_Mem} {r : pm_Res} {a0 : Nat} {a1 : Int32} {a2 : Int32} : pm_C (d + 1) 63 [Value.ref a0, Value.int a1, Value.int a2] M r ↔ pm_R d 63 0 [some (Value.ref a0), some (Value.int a1), some (Value.int a2)] [] M r := Iff.rfl
theorem n64 {d : Nat} {M : pm_Mem} {r : pm_Res} {a0 : Nat} : pm_C (d + 1) 64 [Value.ref a0] M r ↔ pm_R d 64 0 [some (Value.ref a0)] [] M r := Iff.rfl
theorem n65 {d : Nat} {M : pm_Mem} {r : pm_Res} {a0 : Nat} : pm_C (d + 1) 65 [Value.ref a0] M r ↔ pm_R d 65 0 [some (Value.ref a0)] [] M r := Iff.rfl
theorem n66 {d : Nat} {M : pm_Mem} {r : pm_Res} {a0 : Nat} {a1 : Int32} {a2 : Int32} : pm_C (d + 1) 66 [Value.ref a0, Value.int a1, Value.int a2] M r ↔ pm_R d 66 0 [some (Value.ref a0), some (Value.int a1), some (Value.int a2), none] [] M r := Iff.rfl
theorem n67 {d : Nat} {M : pm_Mem} {r : pm_Res} {a0 : Nat} {a1 : Int32} : pm_C (d + 1) 67 [Value.ref a0, Value.int a1] M r ↔ pm_R d 67 0 [some (Value.ref a0), some (Value.int a1), none, none] [] M r := Iff.rfl
theorem n68 {d : Nat} {M : pm_Mem} {r : pm_Res} {a0 : Nat} : pm_C (d + 1) 68 [Value.ref a0] M r ↔ pm_R d 68 0 [some (Value.ref a0), none] [] M r := Iff.rfl
theorem n69 {d : Nat} {M : pm_Mem} {r : pm_Res} {a0 : Nat} {a1 : Int32} {a2 : Int32} : pm_C (d + 1) 69 [Value.ref a0, Value.int a1, Value.int a2] M r ↔ pm_R d 69 0 [some (Value.ref a0), some (Value.int a1), some (Value.int a2)] [] M r := Iff.rfl
theorem n70 {d : Nat} {M : pm_Mem} {r : pm_Res} {a0 : Nat} {a1 : Int32} {a2 : Int32} {a3 : Int32} : pm_C (d + 1) 70 [Value.ref a0, Value.int a1, Value.int a2, Value.int a3] M r ↔ pm_R d 70 0 [some (Value.ref a0), some (Value.int a1), some (Value.int a2), some (Value.int a3), none] [] M r := Iff.rfl
theorem n71 {d : Nat} {M : pm_Mem} {r : pm_Res} {a0 : Nat} {a1 : Int32} : pm_C (d + 1) 71 [Value.ref a0, Value.int a1] M r ↔ pm_R d 71 0 [some (Value.ref a0), some (Value.int a1)] [] M r := Iff.rfl
theorem n72 {d : Nat} {M : pm_Mem} {r : pm_Res} {a0 : Nat} {a1 : Int32} : pm_C (d + 1) 72 [Value.ref a0, Value.int a1] M r ↔ pm_R d 72 0 [some (Value.ref a0), some (Value.int a1)] [] M r := Iff.rfl
theorem n73 {d : Nat} {M : pm_Mem} {r : pm_Res} {a0 : Nat} {a1 : Int32} : pm_C (d + 1) 73 [Value.ref a0, Value.int a1] M r ↔ pm_R d 73 0 [some (Value.ref a0), some (Value.int a1), none] [] M r := Iff.rfl
theorem n74 {d : Nat} {M : pm_Mem} {r : pm_Res} {a0 : Nat} {a1 : Int32} : pm_C (d + 1) 74 [Value.ref a0, Value.int a1] M r ↔ pm_R d 74 0 [some (Value.ref a0), some (Value.int a1), none] [] M r := Iff.rfl
theorem n75 {d : Nat} {M : pm_Mem} {r : pm_Res} {a0 : Nat} {a1 : Int32} {a2 : Int32} : pm_C (d + 1) 75 [Value.ref a0, Value.int a1, Value.int a2] M r ↔ pm_R d 75 0 [some (Value.ref a0), some (Value.int a1), some (Value.int a2), none] [] M r := Iff.rfl
theorem n76 {d : Nat} {M : pm_Mem} {r : pm_Res} {a0 : Nat} {a1 : Int32} : pm_C (d + 1) 76 [Value.ref a0, Value.int a1] M r ↔ pm_R d 76 0 [some (Value.ref a0), some (Value.int a1), none, none] [] M r := Iff.rfl
theorem n77 {d : Nat} {M : pm_Mem} {r : pm_Res} {a0 : Nat} {a1 : Int32} : pm_C (d + 1) 77 [Value.ref a0, Value.int a1] M r ↔ pm_R d 77 0 [some (Value.ref a0), some (Value.int a1), none] [] M r := Iff.rfl
theorem n78 {d : Nat} {M : pm_Mem} {r : pm_Res} {a0 : Nat} : pm_C (d + 1) 78 [Value.ref a0] M r ↔ pm_R d 78 0 [some (Value.ref a0)] [] M r := Iff.rfl
theorem n79 {d : Nat} {M : pm_Mem} {r : pm_Res} {a0 : Nat} : pm_C (d + 1) 79 [Value.ref a0] M r ↔ pm_R d 79 0 [some (Value.ref a0)] [] M r := Iff.rfl
theorem n80 {d : Nat} {M : pm_Mem} {r : pm_Res} {a0 : Nat} {a1 : Int32} {a2 : Int32} : pm_C (d + 1) 80 [Value.ref a0, Value.int a1, Value.int a2] M r ↔ pm_R d 80 0 [some (Value.ref a0), some (Value.int a1), some (Value.int a2)] [] M r := Iff.rfl
theorem n81 {d : Nat} {M : pm_Mem} {r : pm_Res} {a0 : Nat} {a1 : Nat} : pm_C (d + 1) 81 [Value.ref a0, Value.ref a1] M r ↔ pm_R d 81 0 [some (Value.ref a0), some (Value.ref a1)] [] M r := Iff.rfl
theorem n82 {d : Nat} {M : pm_Mem} {r : pm_Res} {a0 : Nat} : pm_C (d + 1) 82 [Value.ref a0] M r ↔ pm_R d 82 0 [some (Value.ref a0)] [] M r := Iff.rfl
theorem n83 {d : Nat} {M : pm_Mem} {r : pm_Res} {a0 : Nat} {a1 : Nat} {a2 : Nat} : pm_C (d + 1) 83 [Value.ref a0, Value.ref a1, Value.ref a2] M r ↔ pm_R d 83 0 [some (Value.ref a0), some (Value.ref a1), some (Value.ref a2), none, none, none, none, none, none, none] [] M r := Iff.rfl
theorem n84 {d : Nat} {M : pm_Mem} {r : pm_Res} {a0 : Nat} {a1 : Nat} {a2 : Int32} : pm_C (d + 1) 84 [Value.ref a0, Value.ref a1, Value.int a2] M r ↔ pm_R d 84 0 [some (Value.ref a0), some (Value.ref a1), some (Value.int a2), none] [] M r := Iff.rfl
theorem n85 {d : Nat} {M : pm_Mem} {r : pm_Res} {a0 : Nat} {a1 : Nat} {a2 : Int32} {a3 : Int32} : pm_C (d + 1) 85 [Value.ref a0, Value.ref a1, Value.int a2, Value.int a3] M r ↔ pm_R d 85 0 [some (Value.ref a0), some (Value.ref a1), some (Value.int a2), some (Value.int a3), none, none, none, none, none] [] M r := Iff.rfl
theorem n86 {d : Nat} {M : pm_Mem} {r : pm_Res} {a0 : Nat} {a1 : Int32} : pm_C (d + 1) 86 [Value.ref a0, Value.int a1] M r ↔ pm_R d 86 0 [some (Value.ref a0), some (Value.int a1)] [] M r := Iff.rfl
theorem n87 {d : Nat} {M : pm_Mem} {r : pm_Res} {a0 : Nat} : pm_C (d + 1) 87 [Value.ref a0] M r ↔ pm_R d 87 0 [some (Value.ref a0)] [] M r := Iff.rfl
theorem n88 {d : Nat} {M : pm_Mem} {r : pm_Res} {a0 : Nat} {a1 : Int32} {a2 : Int32} {a3 : Nat} {a4 : Int32} {a5 : Int32} : pm_C (d + 1) 88 [Value.ref a0, Value.int a1, Value.int a2, Value.ref a3, Value.int a4, Value.int a5] M r ↔ pm_R d 88 0 [some (Value.ref a0), some (Value.int a1), some (Value.int a2), some (Value.ref a3), some (Value.int a4), some (Value.int a5), none] [] M r := Iff.rfl
theorem n89 {d : Nat} {M : pm_Mem} {r : pm_Res} {a0 : Int32} {a1 : Int32} {a2 : Int32} : pm_C (d + 1) 89 [Value.int a0, Value.int a1, Value.int a2] M r ↔ pm_R d 89 0 [some (Value.int a0), some (Value.int a1), some (Value.int a2)] [] M r := Iff.rfl
theorem n90 {d : Nat} {M : pm_Mem} {r : pm_Res} {a0 : Nat} {a1 : Int32} {a2 : Int32} {a3 : Nat} {a4 : Int32} {a5 : Int32} : pm_C (d + 1) 90 [Value.ref a0, Value.int a1, Value.int a2, Value.ref a3, Value.int a4, Value.int a5] M r ↔ pm_R d 90 0 [some (Value.ref a0), some (Value.int a1), some (Value.int a2), some (Value.ref a3), some (Value.int a4), some (Value.int a5), none, none] [] M r := Iff.rfl
theorem n91 {d : Nat} {M : pm_Mem} {r : pm_Res} {a0 : Int32} {a1 : Int32} : pm_C (d + 1) 91 [Value.int a0, Value.int a1] M r ↔ pm_R d 91 0 [some (Value.int a0), some (Value.int a1)] [] M r := Iff.rfl
theorem n92 {d : Nat} {M : pm_Mem} {r : pm_Res} {a0 : Nat} : pm_C (d + 1) 92 [Value.ref a0] M r ↔ pm_R d 92 0 [some (Value.ref a0)] [] M r := Iff.rfl
theorem n93 {d : Nat} {M : pm_Mem} {r : pm_Res} {a0 : Nat} {a1 : Int32} : pm_C (d + 1) 93 [Value.ref a0, Value.int a1] M r ↔ pm_R d 93 0 [some (Value.ref a0), some (Value.int a1)] [] M r := Iff.rfl
theorem n94 {d : Nat} {M : pm_Mem} {r : pm_Res} {a0 : Nat} : pm_C (d + 1) 94 [Value.ref a0] M r ↔ pm_R d 94 0 [some (Value.ref a0), none, none] [] M r := Iff.rfl
theorem n95 {d : Nat} {M : pm_Mem} {r : pm_Res} {a0 : Nat} {a1 : Int32} : pm_C (d + 1) 95 [Value.ref a0, Value.int a1] M r ↔ pm_R d 95 0 [some (Value.ref a0), some (Value.int a1), none] [] M r := Iff.rfl
theorem n96 {d : Nat} {M : pm_Mem} {r : pm_Res} {a0 : Nat} : pm_C (d + 1) 96 [Value.ref a0] M r ↔ pm_R d 96 0 [some (Value.ref a0), none, none] [] M r := Iff.rfl
theorem n97 {d : Nat} {M : pm_Mem} {r : pm_Res} {a0 : Nat} {a1 : Int32} {a2 : Int32} : pm_C (d + 1) 97 [Value.ref a0, Value.int a1, Value.int a2] M r ↔ pm_R d 97 0 [some (Value.ref a0), some (Value.int a1), some (Value.int a2), none, none] [] M r := Iff.rfl
theorem n98 {d : Nat} {M : pm_Mem} {r : pm_Res} {a0 : Nat} {a1 : Int32} : pm_C (d + 1) 98 [Value.ref a0, Value.int a1] M r ↔ pm_R d 98 0 [some (Value.ref a0), some (Value.int a1), none, none, none] [] M r := Iff.rfl
theorem n99 {d : Nat} {M : pm_Mem} {r : pm_Res} {a0 : Nat} : pm_C (d + 1) 99 [Value.ref a0] M r ↔ pm_R d 99 0 [some (Value.ref a0), none, none] [] M r := Iff.rfl
theorem n100 {d : Nat} {M : pm_Mem} {r : pm_Res} {a0 : Nat} {a1 : Int32} : pm_C (d + 1) 100 [Value.ref a0, Value.int a1] M r ↔ pm_R d 100 0 [some (Value.ref a0), some (Value.int a1), none] [] M r := Iff.rfl
theorem n101 {d : Nat} {M : pm_Mem} {r : pm_Res} {a0 : Nat} {a1 : Int32} : pm_C (d + 1) 101 [Value.ref a0, Value.int a1] M r ↔ pm_R d 101 0 [some (Value.ref a0), some (Value.int a1), none] [] M r := Iff.rfl
theorem n102 {d : Nat} {M : pm_Mem} {r : pm_Res} {a0 : Nat} {a1 : Int32} : pm_C (d + 1) 102 [Value.ref a0, Value.int a1] M r ↔ pm_R d 102 0 [some (Value.ref a0), some (Value.int a1)] [] M r := Iff.rfl
theorem n103 {d : Nat} {M : pm_Mem} {r : pm_Res} {a0 : Nat} {a1 : Int32} : pm_C (d + 1) 103 [Value.ref a0, Value.int a1] M r ↔ pm_R d 103 0 [some (Value.ref a0), some (Value.int a1)] [] M r := Iff.rfl
theorem n104 {d : Nat} {M : pm_Mem} {r : pm_Res} {a0 : Nat} : pm_C (d + 1) 104 [Value.ref a0] M r ↔ pm_R d 104 0 [some (Value.ref a0)] [] M r := Iff.rfl
theorem n105 {d : Nat} {M : pm_Mem} {r : pm_Res} {a0 : Nat} : pm_C (d + 1) 105 [Value.ref a0] M r ↔ pm_R d 105 0 [some (Value.ref a0), none] [] M r := Iff.rfl
theorem n106 {d : Nat} {M : pm_Mem} {r : pm_Res} {a0 : Nat} {a1 : Nat} {a2 : Nat} {a3 : Int32} : pm_C (d + 1) 106 [Value.ref a0, Value.ref a1, Value.ref a2, Value.int a3] M r ↔ pm_R d 106 0 [some (Value.ref a0), some (Value.ref a1), some (Value.ref a2), some (Value.int a3)] [] M r := Iff.rfl
theorem n107 {d : Nat} {M : pm_Mem} {r : pm_Res} {a0 : Nat} {a1 : Nat} {a2 : Int32} : pm_C (d + 1) 107 [Value.ref a0, Value.ref a1, Value.int a2] M r ↔ pm_R d 107 0 [some (Value.ref a0), some (Value.ref a1), some (Value.int a2), none, none, none, none, none, none, none, none] [] M r := Iff.rfl
theorem n108 {d : Nat} {M : pm_Mem} {r : pm_Res} {a0 : Nat} : pm_C (d + 1) 108 [Value.ref a0] M r ↔ pm_R d 108 0 [some (Value.ref a0)] [] M r := Iff.rfl
theorem n109 {d : Nat} {M : pm_Mem} {r : pm_Res} {a0 : Nat} : pm_C (d + 1) 109 [Value.ref a0] M r ↔ pm_R d 109 0 [some (Value.ref a0)] [] M r := Iff.rfl
theorem n110 {d : Nat} {M : pm_Mem} {r : pm_Res} {a0 : Nat} {a1 : Nat} : pm_C (d + 1) 110 [Value.ref a0, Value.ref a1] M r ↔ pm_R d 110 0 [some (Value.ref a0), some (Value.ref a1)] [] M r := Iff.rfl
theorem n111 {d : Nat} {M : pm_Mem} {r : pm_Res} {a0 : Nat} {a1 : Int32} {a2 : Int32} : pm_C (d + 1) 111 [Value.ref a0, Value.int a1, Value.int a2] M r ↔ pm_R d 111 0 [some (Value.ref a0), some (Value.int a1), some (Value.int a2)] [] M r := Iff.rfl
theorem n112 {d : Nat} {M : pm_Mem} {r : pm_Res} {a0 : Nat} {a1 : Int32} {a2 : Int32} : pm_C (d + 1) 112 [Value.ref a0, Value.int a1, Value.int a2] M r ↔ pm_R d 112 0 [some (Value.ref a0), some (Value.int a1), some (Value.int a2)] [] M r := Iff.rfl
theorem n113 {d : Nat} {M : pm_Mem} {r : pm_Res} {a0 : Nat} {a1 : Int32} {a2 : Int32} : pm_C (d + 1) 113 [Value.ref a0, Value.int a1, Value.int a2] M r ↔ pm_R d 113 0 [some (Value.ref a0), some (Value.int a1), some (Value.int a2), none, none, none] [] M r := Iff.rfl
theorem n114 {d : Nat} {M : pm_Mem} {r : pm_Res} {a0 : Nat} {a1 : Nat} : pm_C (d + 1) 114 [Value.ref a0, Value.ref a1] M r ↔ pm_R d 114 0 [some (Value.ref a0), some (Value.ref a1), none] [] M r := Iff.rfl
theorem n115 {d : Nat} {M : pm_Mem} {r : pm_Res} {a0 : Nat} {a1 : Int32} {a2 : Int32} {a3 : Nat} : pm_C (d + 1) 115 [Value.ref a0, Value.int a1, Value.int a2, Value.ref a3] M r ↔ pm_R d 115 0 [some (Value.ref a0), some (Value.int a1), some (Value.int a2), some (Value.ref a3), none] [] M r := Iff.rfl
theorem n116 {d : Nat} {M : pm_Mem} {r : pm_Res} {a0 : Nat} {a1 : Int32} {a2 : Int32} {a3 : Nat} : pm_C (d + 1) 116 [Value.ref a0, Value.int a1, Value.int a2, Value.ref a3] M r ↔ pm_R d 116 0 [some (Value.ref a0), some (Value.int a1), some (Value.int a2), some (Value.ref a3), none] [] M r := Iff.rfl
theorem n117 {d : Nat} {M : pm_Mem} {r : pm_Res} {a0 : Nat} {a1 : Int32} {a2 : Int32} {a3 : Nat} : pm_C (d + 1) 117 [Value.ref a0, Value.int a1, Value.int a2, Value.ref a3] M r ↔ pm_R d 117 0 [some (Value.ref a0), some (Value.int a1), some (Value.int a2), some (Value.ref a3), none] [] M r := Iff.rfl
theorem n118 {d : Nat} {M : pm_Mem} {r : pm_Res} {a0 : Nat} {a1 : Int32} {a2 : Nat} : pm_C (d + 1) 118 [Value.ref a0, Value.int a1, Value.ref a2] M r ↔ pm_R d 118 0 [some (Value.ref a0), some (Value.int a1), some (Value.ref a2), none] [] M r := Iff.rfl
theorem n119 {d : Nat} {M : pm_Mem} {r : pm_Res} {a0 : Nat} {a1 : Int32} {a2 : Nat} : pm_C (d + 1) 119 [Value.ref a0, Value.int a1, Value.ref a2] M r ↔ pm_R d 119 0 [some (Value.ref a0), some (Value.int a1), some (Value.ref a2), none] [] M r := Iff.rfl
theorem n120 {d : Nat} {M : pm_Mem} {r : pm_Res} {a0 : Nat} {a1 : Int32} {a2 : Nat} : pm_C (d + 1) 120 [Value.ref a0, Value.int a1, Value.ref a2] M r ↔ pm_R d 120 0 [some (Value.ref a0), some (Value.int a1), some (Value.ref a2), none] [] M r := Iff.rfl
theorem n121 {d : Nat} {M : pm_Mem} {r : pm_Res} {a0 : Nat} : pm_C (d + 1) 121 [Value.ref a0] M r ↔ pm_R d 121 0 [some (Value.ref a0), none, none, none, none, none, none] [] M r := Iff.rfl
theorem n122 {d : Nat} {M : pm_Mem} {r : pm_Res} {a0 : Nat} {a1 : Int32} : pm_C (d + 1) 122 [Value.ref a0, Value.int a1] M r ↔ pm_R d 122 0 [some (Value.ref a0), some (Value.int a1)] [] M r := Iff.rfl
theorem n123 {d : Nat} {M : pm_Mem} {r : pm_Res} {a0 : Nat} {a1 : Int32} {a2 : Int32} : pm_C (d + 1) 123 [Value.ref a0, Value.int a1, Value.int a2] M r ↔ pm_R d 123 0 [some (Value.ref a0), some (Value.int a1), some (Value.int a2)] [] M r := Iff.rfl
theorem n124 {d : Nat} {M : pm_Mem} {r : pm_Res} {a0 : Nat} : pm_C (d + 1) 124 [Value.ref a0] M r ↔ pm_R d 124 0 [some (Value.ref a0)] [] M r := Iff.rfl
theorem n125 {d : Nat} {M : pm_Mem} {r : pm_Res} {a0 : Nat} : pm_C (d + 1) 125 [Value.ref a0] M r ↔ pm_R d 125 0 [some (Value.ref a0)] [] M r := Iff.rfl
theorem n126 {d : Nat} {M : pm_Mem} {r : pm_Res} {a0 : Nat} : pm_C (d + 1) 126 [Value.ref a0] M r ↔ pm_R d 126 0 [some (Value.ref a0)] [] M r := Iff.rfl
theorem n127 {d : Nat} {M : pm_Mem} {r : pm_Res} {a0 : Nat} {a1 : Int32} {a2 : Int32} {a3 : Int32} : pm_C (d + 1) 127 [Value.ref a0, Value.int a1, Value.int a2, Value.int a3] M r ↔ pm_R d 127 0 [some (Value.ref a0), some (Value.int a1), some (Value.int a2), some (Value.int a3)] [] M r := Iff.rfl
theorem n128 {d : Nat} {M : pm_Mem} {r : pm_Res} {a0 : Int32} : pm_C (d + 1) 128 [Value.int a0] M r ↔ pm_R d 128 0 [some (Value.int a0)] [] M r := Iff.rfl
theorem n129 {d : Nat} {M : pm_Mem} {r : pm_Res} {a0 : Int32} {a1 : Int32} : pm_C (d + 1) 129 [Value.int a0, Value.int a1] M r ↔ pm_R d 129 0 [some (Value.int a0), some (Value.int a1)] [] M r := Iff.rfl
theorem n130 {d : Nat} {M : pm_Mem} {r : pm_Res} {a0 : Int32} {a1 : Int32} : pm_C (d + 1) 130 [Value.int a0, Value.int a1] M r ↔ pm_R d 130 0 [some (Value.int a0), some (Value.int a1)] [] M r := Iff.rfl
theorem n131 {d : Nat} {M : pm_Mem} {r : pm_Res} {a0 : Nat} {a1 : Int32} {a2 : Int32} {a3 : Int32} : pm_C (d + 1) 131 [Value.ref a0, Value.int a1, Value.int a2, Value.int a3] M r ↔ pm_R d 131 0 [some (Value.ref a0), some (Value.int a1), some (Value.int a2), some (Value.int a3), none, none] [] M r := Iff.rfl
theorem n132 {d : Nat} {M : pm_Mem} {r : pm_Res} {a0 : Nat} {a1 : Int32} : pm_C (d + 1) 132 [Value.ref a0, Value.int a1] M r ↔ pm_R d 132 0 [some (Value.ref a0), some (Value.int a1), none, none] [] M r := Iff.rfl
theorem n133 {d : Nat} {M : pm_Mem} {r : pm_Res} {a0 : Nat} {a1 : Int32} : pm_C (d + 1) 133 [Value.ref a0, Value.int a1] M r ↔ pm_R d 133 0 [some (Value.ref a0), some (Value.int a1), none, none] [] M r := Iff.rfl
theorem n134 {d : Nat} {M : pm_Mem} {r : pm_Res} {a0 : Nat} {a1 : Int32} : pm_C (d + 1) 134 [Value.ref a0, Value.int a1] M r ↔ pm_R d 134 0 [some (Value.ref a0), some (Value.int a1)] [] M r := Iff.rfl
theorem n135 {d : Nat} {M : pm_Mem} {r : pm_Res} {a0 : Nat} {a1 : Int32} : pm_C (d + 1) 135 [Value.ref a0, Value.int a1] M r ↔ pm_R d 135 0 [some (Value.ref a0), some (Value.int a1)] [] M r := Iff.rfl
theorem n136 {d : Nat} {M : pm_Mem} {r : pm_Res} {a0 : Nat} {a1 : Int32} : pm_C (d + 1) 136 [Value.ref a0, Value.int a1] M r ↔ pm_R d 136 0 [some (Value.ref a0), some (Value.int a1)] [] M r := Iff.rfl
theorem n137 {d : Nat} {M : pm_Mem} {r : pm_Res} {a0 : Nat} {a1 : Int32} {a2 : Int32} : pm_C (d + 1) 137 [Value.ref a0, Value.int a1, Value.int a2] M r ↔ pm_R d 137 0 [some (Value.ref a0), some (Value.int a1), some (Value.int a2)] [] M r := Iff.rfl
theorem n138 {d : Nat} {M : pm_Mem} {r : pm_Res} {a0 : Nat} {a1 : Int32} {a2 : Int32} : pm_C (d + 1) 138 [Value.ref a0, Value.int a1, Value.int a2] M r ↔ pm_R d 138 0 [some (Value.ref a0), some (Value.int a1), some (Value.int a2)] [] M r := Iff.rfl
theorem ex_eq {α : Type} {a : α} {P : α → Prop} : (∃ q, q = a ∧ P q) ↔ P a := ⟨fun ⟨q, h1, h2⟩ => h1 ▸ h2, fun h => ⟨a, rfl, h⟩⟩
theorem ex_ite {α : Type} {c : Prop} [Decidable c] {A B P : α → Prop} : (∃ q, (if c then A q else B q) ∧ P q) ↔ if c then (∃ q, A q ∧ P q) else ∃ q, B q ∧ P q := by
  split <;> exact Iff.rfl
theorem ite_same {c : Prop} [Decidable c] {A : Prop} : (if c then A else A) ↔ A := by split <;> exact Iff.rfl
theorem ite_tf {c : Prop} [Decidable c] : (if c then (1 : Int32) else 0) = 0 ↔ ¬ c := by
  split
  · rename_i h; exact ⟨fun q => absurd q (by decide), fun q => absurd h q⟩
  · rename_i h; exact ⟨fun _ => h, fun _ => rfl⟩
theorem ol_nil {rest : List Value} : (none : Option Value).toList ++ rest = rest := rfl
theorem ol_one {v : Value} {rest : List Value} : (some v : Option Value).toList ++ rest = v :: rest := rfl
/-! small numbers -/
theorem sm_cl {n : Nat} (h : n < 2147483648) : (nI n).toNatClampNeg = n := nI_clamp h
theorem sm_ti {n : Nat} (h : n < 2147483648) : (nI n).toInt = n := by
  unfold nI
  rw [Int32.toInt_ofNat_of_lt (by simpa using h)]
theorem sm_lt {a b : Nat} (ha : a < 2147483648) (hb : b < 2147483648) : nI a < nI b ↔ a < b := by
  rw [Int32.lt_iff_toInt_lt, sm_ti ha, sm_ti hb]; omega
theorem sm_le {a b : Nat} (ha : a < 2147483648) (hb : b < 2147483648) : nI a ≤ nI b ↔ a ≤ b := by
  rw [Int32.le_iff_toInt_le, sm_ti ha, sm_ti hb]; omega
theorem sm_inj {a b : Nat} (ha : a < 2147483648) (hb : b < 2147483648) : nI a = nI b ↔ a = b := by
  rw [← Int32.toInt_inj, sm_ti ha, sm_ti hb]; omega
theorem sm_neg {a : Nat} (ha : a < 2147483648) : ¬ nI a < 0 := by
  rw [Int32.lt_iff_toInt_lt, sm_ti ha]
  show ¬ (a : Int) < 0
  omega
theorem sm_add (a b : Nat) : nI a + nI b = nI (a + b) := (Int32.ofNat_add a b).symm
theorem sm_mul (a b : Nat) : nI a * nI b = nI (a * b) := (Int32.ofNat_mul a b).symm
theorem sm_sub {a b : Nat} (h : b ≤ a) : nI a - nI b = nI (a - b) := by
  have e : nI a = nI (a - b) + nI b := by rw [sm_add]; congr 1; omega
  rw [e]
  exact Int32.add_sub_cancel _ _
theorem sm_in {a n : Nat} (ha : a < 2147483648) : vp_in (nI a) n ↔ a < n := by
  unfold vp_in
  rw [sm_cl ha]
  constructor
  · intro h
    exact Nat.lt_of_not_le (fun q => h (Or.inr q))
  · intro h q
    rcases q with q | q
    · exact sm_neg ha q
    · omega
/-- an index within bounds is a small number -/
theorem vp_nI {i : Int32} {n : Nat} (hn : n ≤ 2147483648) (h : vp_in i n) : ∃ a, a < n ∧ i = nI a := by
  have h1 : ¬ i < 0 := fun q => h (Or.inl q)
  have h2 : i.toNatClampNeg < n := Nat.lt_of_not_le (fun q => h (Or.inr q))
  refine ⟨i.toNatClampNeg, h2, ?_⟩
  rw [← Int32.toInt_inj, sm_ti (by omega)]
  have h3 : 0 ≤ i.toInt := by
    have := Int32.not_lt.mp h1
    exact Int32.le_iff_toInt_le.mp this
  have h4 : i.toNatClampNeg = i.toInt.toNat := rfl
  rw [h4]
  omega
theorem nn_nI {i : Int32} (h : ¬ i < 0) : i = nI i.toNatClampNeg ∧ i.toNatClampNeg < 2147483648 := by
  have h3 : 0 ≤ i.toInt := by
    have := Int32.not_lt.mp h
    exact Int32.le_iff_toInt_le.mp this
  have h4 : i.toNatClampNeg = i.toInt.toNat := rfl
  have h5 : i.toInt < 2147483648 := i.toInt_lt
  have h6 : i.toNatClampNeg < 2147483648 := by rw [h4]; omega
  refine ⟨?_, h6⟩
  rw [← Int32.toInt_inj, sm_ti h6, h4]
  omega
/-! reading behind a write -/
theorem up_eq {I : Nat → Nat → Int32} {a i : Nat} {x : Int32} : pm_up I a i x a i = x := if_pos ⟨rfl, rfl⟩
theorem up_ne {I : Nat → Nat → Int32} {a i b j : Nat} {x : Int32} (h : ¬ (b = a ∧ j = i)) : pm_up I a i x b j = I b j := if_neg h
theorem up_at {I : Nat → Nat → Int32} {a i b j : Nat} {x : Int32} : pm_up I a i x b j = if b = a ∧ j = i then x else I b j := rfl
theorem cp_at {I : Nat → Nat → Int32} {a sp b dp n c j : Nat} : pm_cpy I a sp b dp n c j = if c = b ∧ dp ≤ j ∧ j < dp + n then I a (sp + (j - dp)) else I c j := rfl
theorem kc0 : (0 : Int32).toNatClampNeg = 0 := by decide
theorem kn0 : (0 : Int32) < 0 ↔ False := by decide
theorem kc1 : (1 : Int32).toNatClampNeg = 1 := by decide
theorem kn1 : (1 : Int32) < 0 ↔ False := by decide
theorem kc2 : (2 : Int32).toNatClampNeg = 2 := by decide
theorem kn2 : (2 : Int32) < 0 ↔ False := by decide
theorem kc4 : (4 : Int32).toNatClampNeg = 4 := by decide
theorem kn4 : (4 : Int32) < 0 ↔ False := by decide
theorem kc5 : (5 : Int32).toNatClampNeg = 5 := by decide
theorem kn5 : (5 : Int32) < 0 ↔ False := by decide
theorem kc6 : (6 : Int32).toNatClampNeg = 6 := by decide
theorem kn6 : (6 : Int32) < 0 ↔ False := by decide
theorem kc8 : (8 : Int32).toNatClampNeg = 8 := by decide
theorem kn8 : (8 : Int32) < 0 ↔ False := by decide
theorem kc10 : (10 : Int32).toNatClampNeg = 10 := by decide
theorem kn10 : (10 : Int32) < 0 ↔ False := by decide
theorem kc24 : (24 : Int32).toNatClampNeg = 24 := by decide
theorem kn24 : (24 : Int32) < 0 ↔ False := by decide
theorem kc60 : (60 : Int32).toNatClampNeg = 60 := by decide
theorem kn60 : (60 : Int32) < 0 ↔ False := by decide
theorem kc160 : (160 : Int32).toNatClampNeg = 160 := by decide
theorem kn160 : (160 : Int32) < 0 ↔ False := by decide
theorem kc192 : (192 : Int32).toNatClampNeg = 192 := by decide
theorem kn192 : (192 : Int32) < 0 ↔ False := by decide
theorem kc240 : (240 : Int32).toNatClampNeg = 240 := by decide
theorem kn240 : (240 : Int32) < 0 ↔ False := by decide
theorem sm_s (a : Nat) : nI a + 1 = nI (a + 1) := (nI_succ a).symm
theorem sm_div {a b : Nat} (ha : a < 2147483648) (hb : b < 2147483648) : nI a / nI b = nI (a / b) := by
  rw [← Int32.toInt_inj, Int32.toInt_div, sm_ti ha, sm_ti hb, sm_ti (Nat.lt_of_le_of_lt (Nat.div_le_self a b) ha)]
  have e : (a : Int).tdiv (b : Int) = ((a / b : Nat) : Int) := (Int.ofNat_tdiv a b).symm
  rw [e]
  have h := Nat.div_le_self a b
  generalize a / b = m at h
  rw [Int.bmod_eq_of_le (by omega) (by omega)]
theorem nI0 : nI 0 = 0 := rfl
