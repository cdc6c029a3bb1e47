theorem k0 {v0 : Nat} {hp : xm_H} : xm_call 0 [.ref v0] hp = xm_out 0 (0, [some (.ref v0)], [], hp) := rfl
theorem k1 {v0 : Nat} {v1 : Int32} {hp : xm_H} : xm_call 1 [.ref v0, .int v1] hp = xm_out 1 (0, [some (.ref v0), some (.int v1), none, none, none], [], hp) := rfl
theorem k2 {v0 : Nat} {v1 : Int32} {v2 : Int32} {v3 : Int32} {v4 : Int32} {v5 : Int32} {hp : xm_H} : xm_call 2 [.ref v0, .int v1, .int v2, .int v3, .int v4, .int v5] hp = xm_out 2 (0, [some (.ref v0), some (.int v1), some (.int v2), some (.int v3), some (.int v4), some (.int v5)], [], hp) := rfl
theorem k3 {v0 : Nat} {v1 : Int32} {v2 : Int32} {v3 : Int32} {hp : xm_H} : xm_call 3 [.ref v0, .int v1, .int v2, .int v3] hp = xm_out 3 (0, [some (.ref v0), some (.int v1), some (.int v2), some (.int v3), none], [], hp) := rfl
theorem k4 {v0 : Nat} {v1 : Int32} {hp : xm_H} : xm_call 4 [.ref v0, .int v1] hp = xm_out 4 (0, [some (.ref v0), some (.int v1)], [], hp) := rfl
theorem k5 {v0 : Nat} {v1 : Int32} {hp : xm_H} : xm_call 5 [.ref v0, .int v1] hp = xm_out 5 (0, [some (.ref v0), some (.int v1)], [], hp) := rfl
theorem k6 {v0 : Nat} {v1 : Int32} {hp : xm_H} : xm_call 6 [.ref v0, .int v1] hp = xm_out 6 (0, [some (.ref v0), some (.int v1)], [], hp) := rfl
theorem k7 {v0 : Nat} {hp : xm_H} : xm_call 7 [.ref v0] hp = xm_out 7 (0, [some (.ref v0)], [], hp) := rfl
theorem k8 {v0 : Nat} {v1 : Int32} {v2 : Int32} {v3 : Int32} {hp : xm_H} : xm_call 8 [.ref v0, .int v1, .int v2, .int v3] hp = xm_out 8 (0, [some (.ref v0), some (.int v1), some (.int v2), some (.int v3), none, none, none], [], hp) := rfl
theorem k9 {v0 : Nat} {v1 : Int32} {v2 : Int32} {hp : xm_H} : xm_call 9 [.ref v0, .int v1, .int v2] hp = xm_out 9 (0, [some (.ref v0), some (.int v1), some (.int v2)], [], hp) := rfl
theorem k10 {v0 : Nat} {v1 : Int32} {v2 : Int32} {hp : xm_H} : xm_call 10 [.ref v0, .int v1, .int v2] hp = xm_out 10 (0, [some (.ref v0), some (.int v1), some (.int v2), none], [], hp) := rfl
theorem k11 {v0 : Nat} {v1 : Int32} {hp : xm_H} : xm_call 11 [.ref v0, .int v1] hp = xm_out 11 (0, [some (.ref v0), some (.int v1)], [], hp) := rfl
theorem k12 {v0 : Nat} {v1 : Int32} {hp : xm_H} : xm_call 12 [.ref v0, .int v1] hp = xm_out 12 (0, [some (.ref v0), some (.int v1)], [], hp) := rfl
theorem k13 {v1 : Int32} {hp : xm_H} : xm_call 13 [.int v1] hp = xm_out 13 (0, [some (.int v1)], [], hp) := rfl
theorem k14 {v0 : Nat} {v1 : Int32} {v2 : Int32} {hp : xm_H} : xm_call 14 [.ref v0, .int v1, .int v2] hp = xm_out 14 (0, [some (.ref v0), some (.int v1), some (.int v2)], [], hp) := rfl
theorem k15 {v0 : Nat} {v1 : Int32} {v2 : Int32} {hp : xm_H} : xm_call 15 [.ref v0, .int v1, .int v2] hp = xm_out 15 (0, [some (.ref v0), some (.int v1), some (.int v2)], [], hp) := rfl
theorem k16 {v0 : Nat} {v1 : Int32} {v2 : Int32} {hp : xm_H} : xm_call 16 [.ref v0, .int v1, .int v2] hp = xm_out 16 (0, [some (.ref v0), some (.int v1), some (.int v2), none], [], hp) := rfl
theorem k17 {v0 : Nat} {v1 : Int32} {hp : xm_H} : xm_call 17 [.ref v0, .int v1] hp = xm_out 17 (0, [some (.ref v0), some (.int v1)], [], hp) := rfl
theorem k18 {v0 : Nat} {v1 : Int32} {hp : xm_H} : xm_call 18 [.ref v0, .int v1] hp = xm_out 18 (0, [some (.ref v0), some (.int v1)], [], hp) := rfl
theorem k19 {v0 : Nat} {v1 : Int32} {v2 : Int32} {v3 : Int32} {v4 : Int32} {v5 : Int32} {hp : xm_H} : xm_call 19 [.ref v0, .int v1, .int v2, .int v3, .int v4, .int v5] hp = xm_out 19 (0, [some (.ref v0), some (.int v1), some (.int v2), some (.int v3), some (.int v4), some (.int v5)], [], hp) := rfl
theorem k20 {v0 : Nat} {v1 : Int32} {v2 : Int32} {hp : xm_H} : xm_call 20 [.ref v0, .int v1, .int v2] hp = xm_out 20 (0, [some (.ref v0), some (.int v1), some (.int v2), none], [], hp) := rfl
theorem k21 {v0 : Nat} {v1 : Int32} {hp : xm_H} : xm_call 21 [.ref v0, .int v1] hp = xm_out 21 (0, [some (.ref v0), some (.int v1), none], [], hp) := rfl
theorem k22 {v0 : Nat} {v1 : Int32} {hp : xm_H} : xm_call 22 [.ref v0, .int v1] hp = xm_out 22 (0, [some (.ref v0), some (.int v1)], [], hp) := rfl
theorem k23 {v0 : Nat} {v1 : Int32} {hp : xm_H} : xm_call 23 [.ref v0, .int v1] hp = xm_out 23 (0, [some (.ref v0), some (.int v1)], [], hp) := rfl
theorem k24 {v0 : Nat} {v1 : Int32} {hp : xm_H} : xm_call 24 [.ref v0, .int v1] hp = xm_out 24 (0, [some (.ref v0), some (.int v1)], [], hp) := rfl
theorem k25 {v0 : Nat} {v1 : Int32} {hp : xm_H} : xm_call 25 [.ref v0, .int v1] hp = xm_out 25 (0, [some (.ref v0), some (.int v1)], [], hp) := rfl
theorem k26 {v0 : Nat} {v1 : Int32} {hp : xm_H} : xm_call 26 [.ref v0, .int v1] hp = xm_out 26 (0, [some (.ref v0), some (.int v1)], [], hp) := rfl
theorem k27 {v0 : Nat} {v1 : Int32} {hp : xm_H} : xm_call 27 [.ref v0, .int v1] hp = xm_out 27 (0, [some (.ref v0), some (.int v1)], [], hp) := rfl
theorem k28 {v0 : Nat} {v1 : Int32} {v2 : Int32} {hp : xm_H} : xm_call 28 [.ref v0, .int v1, .int v2] hp = xm_out 28 (0, [some (.ref v0), some (.int v1), some (.int v2), none, none], [], hp) := rfl
theorem k29 {v0 : Nat} {v1 : Int32} {hp : xm_H} : xm_call 29 [.ref v0, .int v1] hp = xm_out 29 (0, [some (.ref v0), some (.int v1)], [], hp) := rfl
theorem k30 {v0 : Nat} {v1 : Int32} {hp : xm_H} : xm_call 30 [.ref v0, .int v1] hp = xm_out 30 (0, [some (.ref v0), some (.int v1)], [], hp) := rfl
theorem k31 {v0 : Nat} {v1 : Int32} {hp : xm_H} : xm_call 31 [.ref v0, .int v1] hp = xm_out 31 (0, [some (.ref v0), some (.int v1)], [], hp) := rfl
theorem k32 {v0 : Nat} {v1 : Int32} {hp : xm_H} : xm_call 32 [.ref v0, .int v1] hp = xm_out 32 (0, [some (.ref v0), some (.int v1)], [], hp) := rfl
theorem k33 {v0 : Nat} {v1 : Int32} {v2 : Int32} {hp : xm_H} : xm_call 33 [.ref v0, .int v1, .int v2] hp = xm_out 33 (0, [some (.ref v0), some (.int v1), some (.int v2)], [], hp) := rfl
theorem k34 {v0 : Nat} {v1 : Int32} {v2 : Int32} {hp : xm_H} : xm_call 34 [.ref v0, .int v1, .int v2] hp = xm_out 34 (0, [some (.ref v0), some (.int v1), some (.int v2)], [], hp) := rfl
theorem k35 {v0 : Nat} {v1 : Int32} {v2 : Int32} {hp : xm_H} : xm_call 35 [.ref v0, .int v1, .int v2] hp = xm_out 35 (0, [some (.ref v0), some (.int v1), some (.int v2)], [], hp) := rfl
theorem k36 {v0 : Nat} {v1 : Int32} {hp : xm_H} : xm_call 36 [.ref v0, .int v1] hp = xm_out 36 (0, [some (.ref v0), some (.int v1)], [], hp) := rfl
theorem k37 {v1 : Int32} {v2 : Int32} {hp : xm_H} : xm_call 37 [.int v1, .int v2] hp = xm_out 37 (0, [some (.int v1), some (.int v2)], [], hp) := rfl
theorem k38 {v1 : Int32} {v2 : Int32} {hp : xm_H} : xm_call 38 [.int v1, .int v2] hp = xm_out 38 (0, [some (.int v1), some (.int v2)], [], hp) := rfl
theorem k39 {v1 : Int32} {hp : xm_H} : xm_call 39 [.int v1] hp = xm_out 39 (0, [some (.int v1)], [], hp) := rfl
theorem k40 {v1 : Int32} {hp : xm_H} : xm_call 40 [.int v1] hp = xm_out 40 (0, [some (.int v1)], [], hp) := rfl
theorem k41 {v1 : Int32} {v2 : Int32} {v3 : Int32} {hp : xm_H} : xm_call 41 [.int v1, .int v2, .int v3] hp = xm_out 41 (0, [some (.int v1), some (.int v2), some (.int v3)], [], hp) := rfl
theorem k42 {v1 : Int32} {hp : xm_H} : xm_call 42 [.int v1] hp = xm_out 42 (0, [some (.int v1)], [], hp) := rfl
theorem k43 {v0 : Nat} {hp : xm_H} : xm_call 43 [.ref v0] hp = xm_out 43 (0, [some (.ref v0)], [], hp) := rfl
theorem k44 {v0 : Nat} {v1 : Int32} {v2 : Int32} {hp : xm_H} : xm_call 44 [.ref v0, .int v1, .int v2] hp = xm_out 44 (0, [some (.ref v0), some (.int v1), some (.int v2), none, none], [], hp) := rfl
theorem k45 {v0 : Nat} {v1 : Int32} {v2 : Int32} {hp : xm_H} : xm_call 45 [.ref v0, .int v1, .int v2] hp = xm_out 45 (0, [some (.ref v0), some (.int v1), some (.int v2), none, none], [], hp) := rfl
theorem k46 {v0 : Nat} {v1 : Int32} {v2 : Int32} {v3 : Int32} {hp : xm_H} : xm_call 46 [.ref v0, .int v1, .int v2, .int v3] hp = xm_out 46 (0, [some (.ref v0), some (.int v1), some (.int v2), some (.int v3), none, none], [], hp) := rfl
theorem k47 {v0 : Nat} {v1 : Int32} {hp : xm_H} : xm_call 47 [.ref v0, .int v1] hp = xm_out 47 (0, [some (.ref v0), some (.int v1)], [], hp) := rfl
theorem k48 {v0 : Nat} {v1 : Int32} {hp : xm_H} : xm_call 48 [.ref v0, .int v1] hp = xm_out 48 (0, [some (.ref v0), some (.int v1)], [], hp) := rfl
theorem k49 {v0 : Nat} {v1 : Int32} {v2 : Int32} {hp : xm_H} : xm_call 49 [.ref v0, .int v1, .int v2] hp = xm_out 49 (0, [some (.ref v0), some (.int v1), some (.int v2), none], [], hp) := rfl
theorem k50 {v0 : Nat} {hp : xm_H} : xm_call 50 [.ref v0] hp = xm_out 50 (0, [some (.ref v0), none], [], hp) := rfl
theorem k51 {v0 : Nat} {v1 : Int32} {v2 : Int32} {v3 : Int32} {v4 : Int32} {hp : xm_H} : xm_call 51 [.ref v0, .int v1, .int v2, .int v3, .int v4] hp = xm_out 51 (0, [some (.ref v0), some (.int v1), some (.int v2), some (.int v3), some (.int v4), none], [], hp) := rfl
theorem k52 {v0 : Nat} {v1 : Int32} {v2 : Int32} {hp : xm_H} : xm_call 52 [.ref v0, .int v1, .int v2] hp = xm_out 52 (0, [some (.ref v0), some (.int v1), some (.int v2)], [], hp) := rfl
theorem k53 {v0 : Nat} {v1 : Int32} {v2 : Int32} {hp : xm_H} : xm_call 53 [.ref v0, .int v1, .int v2] hp = xm_out 53 (0, [some (.ref v0), some (.int v1), some (.int v2), none, none], [], hp) := rfl
theorem k54 {v0 : Nat} {v1 : Int32} {hp : xm_H} : xm_call 54 [.ref v0, .int v1] hp = xm_out 54 (0, [some (.ref v0), some (.int v1), none, none], [], hp) := rfl
theorem k55 {v0 : Nat} {v1 : Int32} {hp : xm_H} : xm_call 55 [.ref v0, .int v1] hp = xm_out 55 (0, [some (.ref v0), some (.int v1)], [], hp) := rfl
theorem k56 {v0 : Nat} {v1 : Int32} {v2 : Int32} {hp : xm_H} : xm_call 56 [.ref v0, .int v1, .int v2] hp = xm_out 56 (0, [some (.ref v0), some (.int v1), some (.int v2), none], [], hp) := rfl
theorem k57 {v0 : Nat} {v1 : Int32} {hp : xm_H} : xm_call 57 [.ref v0, .int v1] hp = xm_out 57 (0, [some (.ref v0), some (.int v1)], [], hp) := rfl
theorem k58 {v1 : Int32} {hp : xm_H} : xm_call 58 [.int v1] hp = xm_out 58 (0, [some (.int v1)], [], hp) := rfl
theorem k59 {v0 : Nat} {hp : xm_H} : xm_call 59 [.ref v0] hp = xm_out 59 (0, [some (.ref v0)], [], hp) := rfl
theorem k60 {v0 : Nat} {v1 : Int32} {hp : xm_H} : xm_call 60 [.ref v0, .int v1] hp = xm_out 60 (0, [some (.ref v0), some (.int v1)], [], hp) := rfl
theorem k61 {v0 : Nat} {v1 : Int32} {v2 : Int32} {hp : xm_H} : xm_call 61 [.ref v0, .int v1, .int v2] hp = xm_out 61 (0, [some (.ref v0), some (.int v1), some (.int v2)], [], hp) := rfl
theorem k62 {v0 : Nat} {v1 : Int32} {v2 : Int32} {hp : xm_H} : xm_call 62 [.ref v0, .int v1, .int v2] hp = xm_out 62 (0, [some (.ref v0), some (.int v1), some (.int v2), none, none], [], hp) := rfl
theorem k63 {v0 : Nat} {hp : xm_H} : xm_call 63 [.ref v0] hp = xm_out 63 (0, [some (.ref v0)], [], hp) := rfl
theorem k64 {v0 : Nat} {hp : xm_H} : xm_call 64 [.ref v0] hp = xm_out 64 (0, [some (.ref v0)], [], hp) := rfl
theorem k65 {v0 : Nat} {v1 : Int32} {hp : xm_H} : xm_call 65 [.ref v0, .int v1] hp = xm_out 65 (0, [some (.ref v0), some (.int v1)], [], hp) := rfl
theorem k66 {v0 : Nat} {v1 : Int32} {v2 : Int32} {hp : xm_H} : xm_call 66 [.ref v0, .int v1, .int v2] hp = xm_out 66 (0, [some (.ref v0), some (.int v1), some (.int v2)], [], hp) := rfl
theorem k67 {v0 : Nat} {v1 : Int32} {v2 : Nat} {hp : xm_H} : xm_call 67 [.ref v0, .int v1, .ref v2] hp = xm_out 67 (0, [some (.ref v0), some (.int v1), some (.ref v2), none, none, none, none], [], hp) := rfl
theorem k68 {v0 : Nat} {hp : xm_H} : xm_call 68 [.ref v0] hp = xm_out 68 (0, [some (.ref v0)], [], hp) := rfl
theorem k69 {v0 : Nat} {v1 : Int32} {hp : xm_H} : xm_call 69 [.ref v0, .int v1] hp = xm_out 69 (0, [some (.ref v0), some (.int v1)], [], hp) := rfl
theorem k70 {v0 : Nat} {v1 : Int32} {v2 : Int32} {v3 : Int32} {hp : xm_H} : xm_call 70 [.ref v0, .int v1, .int v2, .int v3] hp = xm_out 70 (0, [some (.ref v0), some (.int v1), some (.int v2), some (.int v3)], [], hp) := rfl
theorem k71 {v0 : Nat} {v1 : Int32} {v2 : Int32} {v3 : Int32} {hp : xm_H} : xm_call 71 [.ref v0, .int v1, .int v2, .int v3] hp = xm_out 71 (0, [some (.ref v0), some (.int v1), some (.int v2), some (.int v3)], [], hp) := rfl
theorem k72 {v0 : Nat} {v1 : Int32} {v2 : Int32} {hp : xm_H} : xm_call 72 [.ref v0, .int v1, .int v2] hp = xm_out 72 (0, [some (.ref v0), some (.int v1), some (.int v2)], [], hp) := rfl
theorem k73 {v0 : Nat} {v1 : Int32} {v2 : Int32} {hp : xm_H} : xm_call 73 [.ref v0, .int v1, .int v2] hp = xm_out 73 (0, [some (.ref v0), some (.int v1), some (.int v2)], [], hp) := rfl
theorem k74 {v0 : Nat} {hp : xm_H} : xm_call 74 [.ref v0] hp = xm_out 74 (0, [some (.ref v0)], [], hp) := rfl
theorem k75 {v0 : Nat} {v1 : Int32} {hp : xm_H} : xm_call 75 [.ref v0, .int v1] hp = xm_out 75 (0, [some (.ref v0), some (.int v1), none, none, none], [], hp) := rfl
theorem k76 {v0 : Nat} {hp : xm_H} : xm_call 76 [.ref v0] hp = xm_out 76 (0, [some (.ref v0)], [], hp) := rfl
theorem k77 {v0 : Nat} {v1 : Int32} {hp : xm_H} : xm_call 77 [.ref v0, .int v1] hp = xm_out 77 (0, [some (.ref v0), some (.int v1)], [], hp) := rfl
theorem k78 {v0 : Nat} {hp : xm_H} : xm_call 78 [.ref v0] hp = xm_out 78 (0, [some (.ref v0)], [], hp) := rfl
theorem k79 {v0 : Nat} {v1 : Int32} {hp : xm_H} : xm_call 79 [.ref v0, .int v1] hp = xm_out 79 (0, [some (.ref v0), some (.int v1)], [], hp) := rfl
theorem k80 {v0 : Nat} {v1 : Int32} {v2 : Int32} {v3 : Int32} {v4 : Int32} {hp : xm_H} : xm_call 80 [.ref v0, .int v1, .int v2, .int v3, .int v4] hp = xm_out 80 (0, [some (.ref v0), some (.int v1), some (.int v2), some (.int v3), some (.int v4), none], [], hp) := rfl
theorem k81 {v0 : Nat} {v1 : Int32} {v2 : Int32} {v3 : Int32} {v4 : Int32} {hp : xm_H} : xm_call 81 [.ref v0, .int v1, .int v2, .int v3, .int v4] hp = xm_out 81 (0, [some (.ref v0), some (.int v1), some (.int v2), some (.int v3), some (.int v4), none], [], hp) := rfl
theorem k82 {v0 : Nat} {hp : xm_H} : xm_call 82 [.ref v0] hp = xm_out 82 (0, [some (.ref v0)], [], hp) := rfl
theorem k83 {v1 : Int32} {hp : xm_H} : xm_call 83 [.int v1] hp = xm_out 83 (0, [some (.int v1)], [], hp) := rfl
theorem k84 {v0 : Nat} {v1 : Int32} {hp : xm_H} : xm_call 84 [.ref v0, .int v1] hp = xm_out 84 (0, [some (.ref v0), some (.int v1)], [], hp) := rfl
theorem k85 {v0 : Nat} {v1 : Int32} {hp : xm_H} : xm_call 85 [.ref v0, .int v1] hp = xm_out 85 (0, [some (.ref v0), some (.int v1)], [], hp) := rfl
theorem k86 {v0 : Nat} {v1 : Int32} {v2 : Int32} {v3 : Int32} {hp : xm_H} : xm_call 86 [.ref v0, .int v1, .int v2, .int v3] hp = xm_out 86 (0, [some (.ref v0), some (.int v1), some (.int v2), some (.int v3), none, none, none], [], hp) := rfl
theorem k87 {v0 : Nat} {v1 : Int32} {v2 : Int32} {hp : xm_H} : xm_call 87 [.ref v0, .int v1, .int v2] hp = xm_out 87 (0, [some (.ref v0), some (.int v1), some (.int v2), none, none], [], hp) := rfl
theorem k88 {v0 : Nat} {v1 : Int32} {v2 : Int32} {hp : xm_H} : xm_call 88 [.ref v0, .int v1, .int v2] hp = xm_out 88 (0, [some (.ref v0), some (.int v1), some (.int v2)], [], hp) := rfl
theorem k89 {v0 : Nat} {v1 : Int32} {v2 : Int32} {hp : xm_H} : xm_call 89 [.ref v0, .int v1, .int v2] hp = xm_out 89 (0, [some (.ref v0), some (.int v1), some (.int v2)], [], hp) := rfl
theorem k90 {v0 : Nat} {hp : xm_H} : xm_call 90 [.ref v0] hp = xm_out 90 (0, [some (.ref v0)], [], hp) := rfl
theorem k91 {v0 : Nat} {v1 : Int32} {hp : xm_H} : xm_call 91 [.ref v0, .int v1] hp = xm_out 91 (0, [some (.ref v0), some (.int v1)], [], hp) := rfl
theorem k92 {v0 : Nat} {v1 : Int32} {hp : xm_H} : xm_call 92 [.ref v0, .int v1] hp = xm_out 92 (0, [some (.ref v0), some (.int v1)], [], hp) := rfl
theorem k93 {v0 : Nat} {v1 : Int32} {hp : xm_H} : xm_call 93 [.ref v0, .int v1] hp = xm_out 93 (0, [some (.ref v0), some (.int v1)], [], hp) := rfl
theorem k94 {v0 : Nat} {v1 : Int32} {hp : xm_H} : xm_call 94 [.ref v0, .int v1] hp = xm_out 94 (0, [some (.ref v0), some (.int v1)], [], hp) := rfl
theorem k95 {v1 : Int32} {hp : xm_H} : xm_call 95 [.int v1] hp = xm_out 95 (0, [some (.int v1)], [], hp) := rfl
theorem k96 {v0 : Nat} {v1 : Int32} {v2 : Int32} {v3 : Int32} {hp : xm_H} : xm_call 96 [.ref v0, .int v1, .int v2, .int v3] hp = xm_out 96 (0, [some (.ref v0), some (.int v1), some (.int v2), some (.int v3), none, none, none], [], hp) := rfl
theorem k97 {v0 : Nat} {v1 : Int32} {v2 : Int32} {hp : xm_H} : xm_call 97 [.ref v0, .int v1, .int v2] hp = xm_out 97 (0, [some (.ref v0), some (.int v1), some (.int v2)], [], hp) := rfl
theorem k98 {v0 : Nat} {hp : xm_H} : xm_call 98 [.ref v0] hp = xm_out 98 (0, [some (.ref v0), none, none, none, none], [], hp) := rfl
theorem k99 {v0 : Nat} {v1 : Int32} {v2 : Int32} {v3 : Int32} {v4 : Int32} {hp : xm_H} : xm_call 99 [.ref v0, .int v1, .int v2, .int v3, .int v4] hp = xm_out 99 (0, [some (.ref v0), some (.int v1), some (.int v2), some (.int v3), some (.int v4), none, none], [], hp) := rfl
theorem k100 {v0 : Nat} {v1 : Int32} {hp : xm_H} : xm_call 100 [.ref v0, .int v1] hp = xm_out 100 (0, [some (.ref v0), some (.int v1)], [], hp) := rfl
theorem k101 {v1 : Nat} {v2 : Int32} {hp : xm_H} : xm_call 101 [.ref v1, .int v2] hp = xm_out 101 (0, [some (.ref v1), some (.int v2), none], [], hp) := rfl
theorem k102 {v0 : Nat} {v1 : Int32} {v2 : Int32} {hp : xm_H} : xm_call 102 [.ref v0, .int v1, .int v2] hp = xm_out 102 (0, [some (.ref v0), some (.int v1), some (.int v2)], [], hp) := rfl
theorem k103 {v0 : Nat} {v1 : Int32} {v2 : Int32} {hp : xm_H} : xm_call 103 [.ref v0, .int v1, .int v2] hp = xm_out 103 (0, [some (.ref v0), some (.int v1), some (.int v2), none], [], hp) := rfl
theorem k104 {v0 : Nat} {v1 : Int32} {hp : xm_H} : xm_call 104 [.ref v0, .int v1] hp = xm_out 104 (0, [some (.ref v0), some (.int v1)], [], hp) := rfl
theorem k105 {v0 : Nat} {v1 : Int32} {v2 : Int32} {v3 : Int32} {hp : xm_H} : xm_call 105 [.ref v0, .int v1, .int v2, .int v3] hp = xm_out 105 (0, [some (.ref v0), some (.int v1), some (.int v2), some (.int v3)], [], hp) := rfl
theorem k106 {v0 : Nat} {v1 : Int32} {v2 : Int32} {hp : xm_H} : xm_call 106 [.ref v0, .int v1, .int v2] hp = xm_out 106 (0, [some (.ref v0), some (.int v1), some (.int v2)], [], hp) := rfl
theorem k107 {v0 : Nat} {hp : xm_H} : xm_call 107 [.ref v0] hp = xm_out 107 (0, [some (.ref v0)], [], hp) := rfl
theorem k108 {v0 : Nat} {v1 : Int32} {v2 : Int32} {hp : xm_H} : xm_call 108 [.ref v0, .int v1, .int v2] hp = xm_out 108 (0, [some (.ref v0), some (.int v1), some (.int v2)], [], hp) := rfl
theorem k109 {v0 : Nat} {v1 : Int32} {v2 : Int32} {v3 : Int32} {hp : xm_H} : xm_call 109 [.ref v0, .int v1, .int v2, .int v3] hp = xm_out 109 (0, [some (.ref v0), some (.int v1), some (.int v2), some (.int v3)], [], hp) := rfl
theorem k110 {v0 : Nat} {v1 : Int32} {v2 : Int32} {hp : xm_H} : xm_call 110 [.ref v0, .int v1, .int v2] hp = xm_out 110 (0, [some (.ref v0), some (.int v1), some (.int v2)], [], hp) := rfl
theorem k111 {v0 : Nat} {v1 : Int32} {hp : xm_H} : xm_call 111 [.ref v0, .int v1] hp = xm_out 111 (0, [some (.ref v0), some (.int v1)], [], hp) := rfl
theorem k112 {v0 : Nat} {v1 : Int32} {v2 : Int32} {hp : xm_H} : xm_call 112 [.ref v0, .int v1, .int v2] hp = xm_out 112 (0, [some (.ref v0), some (.int v1), some (.int v2)], [], hp) := rfl
theorem k113 {v0 : Nat} {v1 : Int32} {hp : xm_H} : xm_call 113 [.ref v0, .int v1] hp = xm_out 113 (0, [some (.ref v0), some (.int v1)], [], hp) := rfl
theorem k114 {v0 : Nat} {v1 : Int32} {v2 : Int32} {v3 : Int32} {hp : xm_H} : xm_call 114 [.ref v0, .int v1, .int v2, .int v3] hp = xm_out 114 (0, [some (.ref v0), some (.int v1), some (.int v2), some (.int v3), none], [], hp) := rfl
theorem k115 {v0 : Nat} {v1 : Int32} {v2 : Int32} {hp : xm_H} : xm_call 115 [.ref v0, .int v1, .int v2] hp = xm_out 115 (0, [some (.ref v0), some (.int v1), some (.int v2), none], [], hp) := rfl
theorem k116 {v0 : Nat} {v1 : Int32} {v2 : Int32} {v3 : Int32} {v4 : Int32} {hp : xm_H} : xm_call 116 [.ref v0, .int v1, .int v2, .int v3, .int v4] hp = xm_out 116 (0, [some (.ref v0), some (.int v1), some (.int v2), some (.int v3), some (.int v4), none, none], [], hp) := rfl
theorem k117 {v0 : Nat} {v1 : Int32} {v2 : Int32} {hp : xm_H} : xm_call 117 [.ref v0, .int v1, .int v2] hp = xm_out 117 (0, [some (.ref v0), some (.int v1), some (.int v2)], [], hp) := rfl
theorem k118 {v0 : Nat} {v1 : Int32} {hp : xm_H} : xm_call 118 [.ref v0, .int v1] hp = xm_out 118 (0, [some (.ref v0), some (.int v1), none, none, none, none], [], hp) := rfl
theorem k119 {v0 : Nat} {v1 : Int32} {v2 : Int32} {v3 : Int32} {hp : xm_H} : xm_call 119 [.ref v0, .int v1, .int v2, .int v3] hp = xm_out 119 (0, [some (.ref v0), some (.int v1), some (.int v2), some (.int v3), none, none, none, none], [], hp) := rfl
theorem k120 {v0 : Nat} {v1 : Int32} {v2 : Int32} {hp : xm_H} : xm_call 120 [.ref v0, .int v1, .int v2] hp = xm_out 120 (0, [some (.ref v0), some (.int v1), some (.int v2)], [], hp) := rfl
theorem k121 {v0 : Nat} {v1 : Int32} {v2 : Int32} {v3 : Int32} {v4 : Int32} {v5 : Int32} {hp : xm_H} : xm_call 121 [.ref v0, .int v1, .int v2, .int v3, .int v4, .int v5] hp = xm_out 121 (0, [some (.ref v0), some (.int v1), some (.int v2), some (.int v3), some (.int v4), some (.int v5)], [], hp) := rfl
theorem k122 {v0 : Nat} {v1 : Int32} {v2 : Int32} {v3 : Int32} {v4 : Int32} {v5 : Int32} {hp : xm_H} : xm_call 122 [.ref v0, .int v1, .int v2, .int v3, .int v4, .int v5] hp = xm_out 122 (0, [some (.ref v0), some (.int v1), some (.int v2), some (.int v3), some (.int v4), some (.int v5)], [], hp) := rfl
theorem k123 {v0 : Nat} {v1 : Int32} {v2 : Int32} {hp : xm_H} : xm_call 123 [.ref v0, .int v1, .int v2] hp = xm_out 123 (0, [some (.ref v0), some (.int v1), some (.int v2), none], [], hp) := rfl
theorem k124 {v0 : Nat} {v1 : Int32} {v2 : Int32} {v3 : Int32} {hp : xm_H} : xm_call 124 [.ref v0, .int v1, .int v2, .int v3] hp = xm_out 124 (0, [some (.ref v0), some (.int v1), some (.int v2), some (.int v3), none], [], hp) := rfl
theorem k125 {v0 : Nat} {v1 : Int32} {v2 : Int32} {v3 : Int32} {hp : xm_H} : xm_call 125 [.ref v0, .int v1, .int v2, .int v3] hp = xm_out 125 (0, [some (.ref v0), some (.int v1), some (.int v2), some (.int v3), none, none], [], hp) := rfl
theorem k126 {v0 : Nat} {v1 : Int32} {v2 : Int32} {hp : xm_H} : xm_call 126 [.ref v0, .int v1, .int v2] hp = xm_out 126 (0, [some (.ref v0), some (.int v1), some (.int v2)], [], hp) := rfl
theorem k127 {v0 : Nat} {v1 : Int32} {v2 : Int32} {hp : xm_H} : xm_call 127 [.ref v0, .int v1, .int v2] hp = xm_out 127 (0, [some (.ref v0), some (.int v1), some (.int v2)], [], hp) := rfl
theorem k128 {v0 : Nat} {v1 : Int32} {v2 : Int32} {hp : xm_H} : xm_call 128 [.ref v0, .int v1, .int v2] hp = xm_out 128 (0, [some (.ref v0), some (.int v1), some (.int v2), none], [], hp) := rfl
theorem k129 {v0 : Nat} {v1 : Int32} {hp : xm_H} : xm_call 129 [.ref v0, .int v1] hp = xm_out 129 (0, [some (.ref v0), some (.int v1)], [], hp) := rfl
theorem k130 {v0 : Nat} {v1 : Int32} {v2 : Int32} {v3 : Int32} {v4 : Int32} {hp : xm_H} : xm_call 130 [.ref v0, .int v1, .int v2, .int v3, .int v4] hp = xm_out 130 (0, [some (.ref v0), some (.int v1), some (.int v2), some (.int v3), some (.int v4), none, none, none], [], hp) := rfl
theorem k131 {v0 : Nat} {v1 : Int32} {v2 : Int32} {hp : xm_H} : xm_call 131 [.ref v0, .int v1, .int v2] hp = xm_out 131 (0, [some (.ref v0), some (.int v1), some (.int v2)], [], hp) := rfl
theorem k132 {v0 : Nat} {v1 : Int32} {v2 : Int32} {v3 : Int32} {v4 : Int32} {v5 : Int32} {hp : xm_H} : xm_call 132 [.ref v0, .int v1, .int v2, .int v3, .int v4, .int v5] hp = xm_out 132 (0, [some (.ref v0), some (.int v1), some (.int v2), some (.int v3), some (.int v4), some (.int v5)], [], hp) := rfl
theorem k133 {v0 : Nat} {v1 : Int32} {v2 : Int32} {v3 : Int32} {v4 : Int32} {v5 : Int32} {hp : xm_H} : xm_call 133 [.ref v0, .int v1, .int v2, .int v3, .int v4, .int v5] hp = xm_out 133 (0, [some (.ref v0), some (.int v1), some (.int v2), some (.int v3), some (.int v4), some (.int v5)], [], hp) := rfl
theorem k134 {v0 : Nat} {v1 : Int32} {v2 : Int32} {v3 : Int32} {hp : xm_H} : xm_call 134 [.ref v0, .int v1, .int v2, .int v3] hp = xm_out 134 (0, [some (.ref v0), some (.int v1), some (.int v2), some (.int v3)], [], hp) := rfl
theorem k135 {v0 : Nat} {v1 : Int32} {v2 : Int32} {v3 : Int32} {hp : xm_H} : xm_call 135 [.ref v0, .int v1, .int v2, .int v3] hp = xm_out 135 (0, [some (.ref v0), some (.int v1), some (.int v2), some (.int v3)], [], hp) := rfl
theorem k136 {v0 : Nat} {v1 : Int32} {v2 : Int32} {hp : xm_H} : xm_call 136 [.ref v0, .int v1, .int v2] hp = xm_out 136 (0, [some (.ref v0), some (.int v1), some (.int v2)], [], hp) := rfl
theorem k137 {v0 : Nat} {v1 : Int32} {hp : xm_H} : xm_call 137 [.ref v0, .int v1] hp = xm_out 137 (0, [some (.ref v0), some (.int v1), none, none, none, none, none], [], hp) := rfl
theorem k138 {v0 : Nat} {v1 : Int32} {v2 : Int32} {hp : xm_H} : xm_call 138 [.ref v0, .int v1, .int v2] hp = xm_out 138 (0, [some (.ref v0), some (.int v1), some (.int v2), none, none], [], hp) := rfl
theorem k139 {v0 : Nat} {v1 : Int32} {v2 : Int32} {v3 : Int32} {hp : xm_H} : xm_call 139 [.ref v0, .int v1, .int v2, .int v3] hp = xm_out 139 (0, [some (.ref v0), some (.int v1), some (.int v2), some (.int v3), none], [], hp) := rfl
theorem k140 {v0 : Nat} {v1 : Int32} {v2 : Int32} {v3 : Int32} {v4 : Int32} {v5 : Int32} {hp : xm_H} : xm_call 140 [.ref v0, .int v1, .int v2, .int v3, .int v4, .int v5] hp = xm_out 140 (0, [some (.ref v0), some (.int v1), some (.int v2), some (.int v3), some (.int v4), some (.int v5)], [], hp) := rfl
theorem k141 {v0 : Nat} {v1 : Int32} {v2 : Int32} {hp : xm_H} : xm_call 141 [.ref v0, .int v1, .int v2] hp = xm_out 141 (0, [some (.ref v0), some (.int v1), some (.int v2), none, none, none], [], hp) := rfl
theorem k142 {v0 : Nat} {v1 : Int32} {v2 : Int32} {v3 : Int32} {hp : xm_H} : xm_call 142 [.ref v0, .int v1, .int v2, .int v3] hp = xm_out 142 (0, [some (.ref v0), some (.int v1), some (.int v2), some (.int v3), none, none, none, none], [], hp) := rfl
theorem k143 {v0 : Nat} {v1 : Int32} {v2 : Int32} {v3 : Int32} {hp : xm_H} : xm_call 143 [.ref v0, .int v1, .int v2, .int v3] hp = xm_out 143 (0, [some (.ref v0), some (.int v1), some (.int v2), some (.int v3)], [], hp) := rfl
theorem k144 {v0 : Nat} {v1 : Int32} {v2 : Int32} {v3 : Int32} {hp : xm_H} : xm_call 144 [.ref v0, .int v1, .int v2, .int v3] hp = xm_out 144 (0, [some (.ref v0), some (.int v1), some (.int v2), some (.int v3)], [], hp) := rfl
theorem k145 {v0 : Nat} {v1 : Int32} {hp : xm_H} : xm_call 145 [.ref v0, .int v1] hp = xm_out 145 (0, [some (.ref v0), some (.int v1), none, none, none], [], hp) := rfl
theorem k146 {v0 : Nat} {v1 : Int32} {v2 : Int32} {hp : xm_H} : xm_call 146 [.ref v0, .int v1, .int v2] hp = xm_out 146 (0, [some (.ref v0), some (.int v1), some (.int v2)], [], hp) := rfl
theorem k147 {v0 : Nat} {v1 : Int32} {v2 : Int32} {v3 : Int32} {hp : xm_H} : xm_call 147 [.ref v0, .int v1, .int v2, .int v3] hp = xm_out 147 (0, [some (.ref v0), some (.int v1), some (.int v2), some (.int v3), none], [], hp) := rfl
theorem k148 {v0 : Nat} {v1 : Int32} {v2 : Int32} {hp : xm_H} : xm_call 148 [.ref v0, .int v1, .int v2] hp = xm_out 148 (0, [some (.ref v0), some (.int v1), some (.int v2), none, none], [], hp) := rfl
theorem k149 {v0 : Nat} {v1 : Int32} {v2 : Int32} {v3 : Int32} {hp : xm_H} : xm_call 149 [.ref v0, .int v1, .int v2, .int v3] hp = xm_out 149 (0, [some (.ref v0), some (.int v1), some (.int v2), some (.int v3)], [], hp) := rfl
theorem k150 {v0 : Nat} {v1 : Int32} {v2 : Int32} {v3 : Int32} {hp : xm_H} : xm_call 150 [.ref v0, .int v1, .int v2, .int v3] hp = xm_out 150 (0, [some (.ref v0), some (.int v1), some (.int v2), some (.int v3), none, none, none], [], hp) := rfl
theorem k151 {v0 : Nat} {v1 : Int32} {v2 : Int32} {v3 : Int32} {v4 : Int32} {hp : xm_H} : xm_call 151 [.ref v0, .int v1, .int v2, .int v3, .int v4] hp = xm_out 151 (0, [some (.ref v0), some (.int v1), some (.int v2), some (.int v3), some (.int v4), none, none, none, none, none], [], hp) := rfl
theorem k152 {v0 : Nat} {v1 : Int32} {v2 : Int32} {hp : xm_H} : xm_call 152 [.ref v0, .int v1, .int v2] hp = xm_out 152 (0, [some (.ref v0), some (.int v1), some (.int v2), none, none, none, none, none], [], hp) := rfl
theorem k153 {v0 : Nat} {v1 : Int32} {v2 : Int32} {v3 : Int32} {hp : xm_H} : xm_call 153 [.ref v0, .int v1, .int v2, .int v3] hp = xm_out 153 (0, [some (.ref v0), some (.int v1), some (.int v2), some (.int v3), none], [], hp) := rfl
theorem k154 {v0 : Nat} {v1 : Int32} {v2 : Int32} {v3 : Int32} {v4 : Int32} {hp : xm_H} : xm_call 154 [.ref v0, .int v1, .int v2, .int v3, .int v4] hp = xm_out 154 (0, [some (.ref v0), some (.int v1), some (.int v2), some (.int v3), some (.int v4), none, none, none, none], [], hp) := rfl
theorem k155 {v0 : Nat} {v1 : Int32} {hp : xm_H} : xm_call 155 [.ref v0, .int v1] hp = xm_out 155 (0, [some (.ref v0), some (.int v1)], [], hp) := rfl
theorem k156 {v0 : Nat} {v1 : Int32} {v2 : Int32} {hp : xm_H} : xm_call 156 [.ref v0, .int v1, .int v2] hp = xm_out 156 (0, [some (.ref v0), some (.int v1), some (.int v2)], [], hp) := rfl
theorem k157 {v0 : Nat} {v1 : Int32} {v2 : Int32} {v3 : Int32} {hp : xm_H} : xm_call 157 [.ref v0, .int v1, .int v2, .int v3] hp = xm_out 157 (0, [some (.ref v0), some (.int v1), some (.int v2), some (.int v3)], [], hp) := rfl
theorem k158 {v0 : Nat} {v1 : Int32} {v2 : Int32} {v3 : Int32} {hp : xm_H} : xm_call 158 [.ref v0, .int v1, .int v2, .int v3] hp = xm_out 158 (0, [some (.ref v0), some (.int v1), some (.int v2), some (.int v3)], [], hp) := rfl
theorem k159 {v0 : Nat} {v1 : Int32} {v2 : Int32} {v3 : Int32} {v4 : Int32} {hp : xm_H} : xm_call 159 [.ref v0, .int v1, .int v2, .int v3, .int v4] hp = xm_out 159 (0, [some (.ref v0), some (.int v1), some (.int v2), some (.int v3), some (.int v4), none, none, none], [], hp) := rfl
theorem k160 {v0 : Nat} {v1 : Int32} {v2 : Int32} {hp : xm_H} : xm_call 160 [.ref v0, .int v1, .int v2] hp = xm_out 160 (0, [some (.ref v0), some (.int v1), some (.int v2)], [], hp) := rfl
theorem k161 {v0 : Nat} {v1 : Int32} {hp : xm_H} : xm_call 161 [.ref v0, .int v1] hp = xm_out 161 (0, [some (.ref v0), some (.int v1), none], [], hp) := rfl
theorem k162 {v0 : Nat} {v1 : Int32} {v2 : Int32} {v3 : Int32} {v4 : Int32} {hp : xm_H} : xm_call 162 [.ref v0, .int v1, .int v2, .int v3, .int v4] hp = xm_out 162 (0, [some (.ref v0), some (.int v1), some (.int v2), some (.int v3), some (.int v4), none, none, none], [], hp) := rfl
theorem k163 {v0 : Nat} {v1 : Int32} {hp : xm_H} : xm_call 163 [.ref v0, .int v1] hp = xm_out 163 (0, [some (.ref v0), some (.int v1)], [], hp) := rfl
theorem k164 {v0 : Nat} {v1 : Int32} {v2 : Int32} {v3 : Int32} {hp : xm_H} : xm_call 164 [.ref v0, .int v1, .int v2, .int v3] hp = xm_out 164 (0, [some (.ref v0), some (.int v1), some (.int v2), some (.int v3), none, none], [], hp) := rfl
theorem k165 {v0 : Nat} {v1 : Int32} {v2 : Int32} {v3 : Int32} {v4 : Int32} {hp : xm_H} : xm_call 165 [.ref v0, .int v1, .int v2, .int v3, .int v4] hp = xm_out 165 (0, [some (.ref v0), some (.int v1), some (.int v2), some (.int v3), some (.int v4), none, none, none], [], hp) := rfl
theorem k166 {v0 : Nat} {v1 : Int32} {v2 : Int32} {hp : xm_H} : xm_call 166 [.ref v0, .int v1, .int v2] hp = xm_out 166 (0, [some (.ref v0), some (.int v1), some (.int v2), none], [], hp) := rfl
theorem k167 {v0 : Nat} {v1 : Int32} {v2 : Int32} {v3 : Int32} {hp : xm_H} : xm_call 167 [.ref v0, .int v1, .int v2, .int v3] hp = xm_out 167 (0, [some (.ref v0), some (.int v1), some (.int v2), some (.int v3), none, none, none], [], hp) := rfl
theorem k168 {v0 : Nat} {v1 : Int32} {v2 : Int32} {hp : xm_H} : xm_call 168 [.ref v0, .int v1, .int v2] hp = xm_out 168 (0, [some (.ref v0), some (.int v1), some (.int v2)], [], hp) := rfl
theorem k169 {v0 : Nat} {v1 : Int32} {v2 : Int32} {v3 : Int32} {hp : xm_H} : xm_call 169 [.ref v0, .int v1, .int v2, .int v3] hp = xm_out 169 (0, [some (.ref v0), some (.int v1), some (.int v2), some (.int v3)], [], hp) := rfl
theorem k170 {v0 : Nat} {v1 : Int32} {v2 : Int32} {v3 : Int32} {hp : xm_H} : xm_call 170 [.ref v0, .int v1, .int v2, .int v3] hp = xm_out 170 (0, [some (.ref v0), some (.int v1), some (.int v2), some (.int v3), none], [], hp) := rfl
theorem k171 {v0 : Nat} {v1 : Int32} {v2 : Int32} {v3 : Int32} {hp : xm_H} : xm_call 171 [.ref v0, .int v1, .int v2, .int v3] hp = xm_out 171 (0, [some (.ref v0), some (.int v1), some (.int v2), some (.int v3), none], [], hp) := rfl
theorem k172 {v0 : Nat} {v1 : Int32} {v2 : Int32} {v3 : Int32} {v4 : Int32} {hp : xm_H} : xm_call 172 [.ref v0, .int v1, .int v2, .int v3, .int v4] hp = xm_out 172 (0, [some (.ref v0), some (.int v1), some (.int v2), some (.int v3), some (.int v4), none], [], hp) := rfl
theorem k173 {v0 : Nat} {v1 : Int32} {v2 : Int32} {hp : xm_H} : xm_call 173 [.ref v0, .int v1, .int v2] hp = xm_out 173 (0, [some (.ref v0), some (.int v1), some (.int v2), none, none, none], [], hp) := rfl
theorem k174 {v0 : Nat} {v1 : Int32} {v2 : Int32} {v3 : Int32} {hp : xm_H} : xm_call 174 [.ref v0, .int v1, .int v2, .int v3] hp = xm_out 174 (0, [some (.ref v0), some (.int v1), some (.int v2), some (.int v3), none, none], [], hp) := rfl
theorem k175 {v0 : Nat} {v1 : Int32} {v2 : Int32} {v3 : Int32} {hp : xm_H} : xm_call 175 [.ref v0, .int v1, .int v2, .int v3] hp = xm_out 175 (0, [some (.ref v0), some (.int v1), some (.int v2), some (.int v3), none], [], hp) := rfl
theorem k176 {v0 : Nat} {v1 : Int32} {v2 : Int32} {v3 : Int32} {v4 : Int32} {hp : xm_H} : xm_call 176 [.ref v0, .int v1, .int v2, .int v3, .int v4] hp = xm_out 176 (0, [some (.ref v0), some (.int v1), some (.int v2), some (.int v3), some (.int v4), none], [], hp) := rfl
theorem k177 {v0 : Nat} {v1 : Int32} {v2 : Int32} {hp : xm_H} : xm_call 177 [.ref v0, .int v1, .int v2] hp = xm_out 177 (0, [some (.ref v0), some (.int v1), some (.int v2), none, none], [], hp) := rfl
theorem k192 {v1 : Nat} {hp : xm_H} : xm_call 192 [.ref v1] hp = xm_out 192 (0, [some (.ref v1), none, none, none], [], hp) := rfl
