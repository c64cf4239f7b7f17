theorem q20 : Cond.initialized RL ∈ TB := tb_at 20 (by decide +kernel) rfl
theorem q21 : Cond.initialized RX4 ∈ TB := tb_at 21 (by decide +kernel) rfl
theorem q22 : Cond.initialized RX2 ∈ TB := tb_at 22 (by decide +kernel) rfl
theorem q23 : Cond.initialized RX1 ∈ TB := tb_at 23 (by decide +kernel) rfl
theorem q24 : Cond.initialized RX0 ∈ TB := tb_at 24 (by decide +kernel) rfl
theorem q25 : Cond.initialized RJ9 ∈ TB := tb_at 25 (by decide +kernel) rfl
theorem q26 : Cond.initialized RJ10 ∈ TB := tb_at 26 (by decide +kernel) rfl
theorem q27 : Cond.initialized RX3 ∈ TB := tb_at 27 (by decide +kernel) rfl
theorem q28 : Cond.initialized RJ6 ∈ TB := tb_at 28 (by decide +kernel) rfl
theorem q29 : Cond.classLink RL 15 RX4 ∈ TB := tb_at 29 (by decide +kernel) rfl
theorem q30 : Cond.instantiable RX4 6 ∈ TB := tb_at 30 (by decide +kernel) rfl
theorem q31 : Cond.methodLink RL 105 yX4_init ∈ TB := tb_at 31 (by decide +kernel) rfl
theorem q32 : Cond.instanceMethod yX4_init ∈ TB := tb_at 32 (by decide +kernel) rfl
set_option maxRecDepth 100000 in
theorem q33 : Cond.code yX4_init cX4_init 2 none ∈ TB := tb_at 33 rfl rfl
theorem q34 : Cond.methodLink RX4 1 Lib.objectInit ∈ TB := tb_at 34 (by decide +kernel) rfl
theorem q35 : Cond.instanceMethod Lib.objectInit ∈ TB := tb_at 35 (by decide +kernel) rfl
set_option maxRecDepth 100000 in
theorem q36 : Cond.code Lib.objectInit ⟨#[0xb1]⟩ 1 none ∈ TB := tb_at 36 rfl rfl
theorem q37 : Cond.classLink RX4 7 RX2 ∈ TB := tb_at 37 (by decide +kernel) rfl
theorem q38 : Cond.instantiable RX2 7 ∈ TB := tb_at 38 (by decide +kernel) rfl
theorem q39 : Cond.methodLink RX4 9 yX2_init ∈ TB := tb_at 39 (by decide +kernel) rfl
theorem q40 : Cond.instanceMethod yX2_init ∈ TB := tb_at 40 (by decide +kernel) rfl
set_option maxRecDepth 100000 in
theorem q41 : Cond.code yX2_init cX2_init 1 none ∈ TB := tb_at 41 rfl rfl
theorem q42 : Cond.methodLink RX2 3 Lib.objectInit ∈ TB := tb_at 42 (by decide +kernel) rfl
theorem q43 : Cond.classLink RX2 15 RX1 ∈ TB := tb_at 43 (by decide +kernel) rfl
theorem q44 : Cond.instantiable RX1 5 ∈ TB := tb_at 44 (by decide +kernel) rfl
theorem q45 : Cond.methodLinkNest RX2 17 yX1_init RX4 ∈ NB := nb_at 45 (by decide +kernel) rfl
theorem q46 : Cond.instanceMethod yX1_init ∈ TB := tb_at 46 (by decide +kernel) rfl
set_option maxRecDepth 100000 in
theorem q47 : Cond.code yX1_init cX1_init 1 none ∈ TB := tb_at 47 rfl rfl
theorem q48 : Cond.methodLink RX1 3 Lib.objectInit ∈ TB := tb_at 48 (by decide +kernel) rfl
theorem q49 : Cond.fieldLink RX1 9 "EscheatLots$Lots" "count" "I" ∈ TB := tb_at 49 (by decide +kernel) rfl
theorem q50 : Cond.fieldLink RX2 62 "EscheatLots$Lots" "count" "I" ∈ TB := tb_at 50 (by decide +kernel) rfl
theorem q51 : Cond.fieldLink RX4 153 "EscheatLots$Lots" "count" "I" ∈ TB := tb_at 51 (by decide +kernel) rfl
theorem q52 : Cond.fieldLink RX1 15 "EscheatLots$Lots" "value" "[I" ∈ TB := tb_at 52 (by decide +kernel) rfl
theorem q53 : Cond.fieldLink RX2 65 "EscheatLots$Lots" "value" "[I" ∈ TB := tb_at 53 (by decide +kernel) rfl
theorem q54 : Cond.fieldLink RX1 19 "EscheatLots$Lots" "state" "[I" ∈ TB := tb_at 54 (by decide +kernel) rfl
theorem q55 : Cond.fieldLink RX2 72 "EscheatLots$Lots" "state" "[I" ∈ TB := tb_at 55 (by decide +kernel) rfl
theorem q56 : Cond.fieldLink RX1 22 "EscheatLots$Lots" "counted" "[I" ∈ TB := tb_at 56 (by decide +kernel) rfl
theorem q57 : Cond.fieldLink RX2 175 "EscheatLots$Lots" "counted" "[I" ∈ TB := tb_at 57 (by decide +kernel) rfl
theorem q58 : Cond.fieldLink RX1 25 "EscheatLots$Lots" "since" "[I" ∈ TB := tb_at 58 (by decide +kernel) rfl
theorem q59 : Cond.fieldLink RX2 106 "EscheatLots$Lots" "since" "[I" ∈ TB := tb_at 59 (by decide +kernel) rfl
theorem q60 : Cond.lays RX1 "EscheatLots$Lots" "count" "I" ∈ TB := tb_at 60 (by decide +kernel) rfl
theorem q62 : Cond.laysFinal RX1 "EscheatLots$Lots" "value" "[I" ∈ TB := tb_at 62 (by decide +kernel) rfl
theorem q64 : Cond.laysFinal RX1 "EscheatLots$Lots" "state" "[I" ∈ TB := tb_at 64 (by decide +kernel) rfl
theorem q66 : Cond.laysFinal RX1 "EscheatLots$Lots" "counted" "[I" ∈ TB := tb_at 66 (by decide +kernel) rfl
theorem q68 : Cond.laysFinal RX1 "EscheatLots$Lots" "since" "[I" ∈ TB := tb_at 68 (by decide +kernel) rfl
theorem q71 : Cond.arrayClass .int ∈ TB := tb_at 71 (by decide +kernel) rfl
theorem q72 : Cond.classLink RX2 22 RX0 ∈ TB := tb_at 72 (by decide +kernel) rfl
theorem q73 : Cond.instantiable RX0 8 ∈ TB := tb_at 73 (by decide +kernel) rfl
theorem q74 : Cond.methodLinkNest RX2 24 yX0_init RX4 ∈ NB := nb_at 74 (by decide +kernel) rfl
theorem q75 : Cond.instanceMethod yX0_init ∈ TB := tb_at 75 (by decide +kernel) rfl
set_option maxRecDepth 100000 in
theorem q76 : Cond.code yX0_init cX0_init 1 none ∈ TB := tb_at 76 rfl rfl
theorem q77 : Cond.methodLink RX0 3 Lib.objectInit ∈ TB := tb_at 77 (by decide +kernel) rfl
theorem q78 : Cond.fieldLink RX0 9 "EscheatLots$Claims" "count" "I" ∈ TB := tb_at 78 (by decide +kernel) rfl
theorem q79 : Cond.fieldLink RX2 96 "EscheatLots$Claims" "count" "I" ∈ TB := tb_at 79 (by decide +kernel) rfl
theorem q80 : Cond.fieldLink RX0 15 "EscheatLots$Claims" "heir" "[I" ∈ TB := tb_at 80 (by decide +kernel) rfl
theorem q81 : Cond.fieldLink RX2 97 "EscheatLots$Claims" "heir" "[I" ∈ TB := tb_at 81 (by decide +kernel) rfl
theorem q82 : Cond.fieldLink RX0 19 "EscheatLots$Claims" "lot" "[I" ∈ TB := tb_at 82 (by decide +kernel) rfl
theorem q83 : Cond.fieldLink RX2 100 "EscheatLots$Claims" "lot" "[I" ∈ TB := tb_at 83 (by decide +kernel) rfl
theorem q84 : Cond.fieldLink RX0 22 "EscheatLots$Claims" "line" "[I" ∈ TB := tb_at 84 (by decide +kernel) rfl
theorem q85 : Cond.fieldLink RX2 103 "EscheatLots$Claims" "line" "[I" ∈ TB := tb_at 85 (by decide +kernel) rfl
theorem q86 : Cond.fieldLink RX0 25 "EscheatLots$Claims" "proof" "[I" ∈ TB := tb_at 86 (by decide +kernel) rfl
theorem q87 : Cond.fieldLink RX2 116 "EscheatLots$Claims" "proof" "[I" ∈ TB := tb_at 87 (by decide +kernel) rfl
theorem q88 : Cond.fieldLink RX0 28 "EscheatLots$Claims" "state" "[I" ∈ TB := tb_at 88 (by decide +kernel) rfl
theorem q89 : Cond.fieldLink RX2 128 "EscheatLots$Claims" "state" "[I" ∈ TB := tb_at 89 (by decide +kernel) rfl
theorem q90 : Cond.fieldLink RX0 31 "EscheatLots$Claims" "waited" "[I" ∈ TB := tb_at 90 (by decide +kernel) rfl
theorem q91 : Cond.fieldLink RX2 125 "EscheatLots$Claims" "waited" "[I" ∈ TB := tb_at 91 (by decide +kernel) rfl
theorem q92 : Cond.fieldLink RX0 34 "EscheatLots$Claims" "brought" "[I" ∈ TB := tb_at 92 (by decide +kernel) rfl
theorem q93 : Cond.fieldLink RX2 162 "EscheatLots$Claims" "brought" "[I" ∈ TB := tb_at 93 (by decide +kernel) rfl
theorem q94 : Cond.lays RX0 "EscheatLots$Claims" "count" "I" ∈ TB := tb_at 94 (by decide +kernel) rfl
theorem q96 : Cond.laysFinal RX0 "EscheatLots$Claims" "heir" "[I" ∈ TB := tb_at 96 (by decide +kernel) rfl
theorem q98 : Cond.laysFinal RX0 "EscheatLots$Claims" "lot" "[I" ∈ TB := tb_at 98 (by decide +kernel) rfl
theorem q100 : Cond.laysFinal RX0 "EscheatLots$Claims" "line" "[I" ∈ TB := tb_at 100 (by decide +kernel) rfl
theorem q102 : Cond.laysFinal RX0 "EscheatLots$Claims" "proof" "[I" ∈ TB := tb_at 102 (by decide +kernel) rfl
theorem q104 : Cond.laysFinal RX0 "EscheatLots$Claims" "state" "[I" ∈ TB := tb_at 104 (by decide +kernel) rfl
theorem q106 : Cond.laysFinal RX0 "EscheatLots$Claims" "waited" "[I" ∈ TB := tb_at 106 (by decide +kernel) rfl
theorem q108 : Cond.laysFinal RX0 "EscheatLots$Claims" "brought" "[I" ∈ TB := tb_at 108 (by decide +kernel) rfl
theorem q111 : Cond.fieldLinkNest RX2 42 "EscheatLots" "AT_FIRST" "[I" RX4 ∈ NB := nb_at 111 (by decide +kernel) rfl
theorem q113 : Cond.methodLinkNest RX2 45 yX4_copy RX4 ∈ NB := nb_at 113 (by decide +kernel) rfl
theorem q114 : Cond.static yX4_copy ∈ TB := tb_at 114 (by decide +kernel) rfl
set_option maxRecDepth 100000 in
theorem q115 : Cond.code yX4_copy cX4_copy 2 none ∈ TB := tb_at 115 rfl rfl
theorem q116 : Cond.methodLink RX4 165 Lib.Math.min.name ∈ TB := tb_at 116 (by decide +kernel) rfl
theorem q117 : Cond.static Lib.Math.min.name ∈ TB := tb_at 117 (by decide +kernel) rfl
set_option maxRecDepth 100000 in
theorem q118 : Cond.code Lib.Math.min.name Lib.Math.min.code 2 (some .int) ∈ TB := tb_at 118 rfl rfl
theorem q119 : Cond.methodLink RX4 170 arraycopyName ∈ TB := tb_at 119 (by decide +kernel) rfl
theorem q120 : Cond.static arraycopyName ∈ TB := tb_at 120 (by decide +kernel) rfl
theorem q121 : Cond.native arraycopyName ∈ TB := tb_at 121 (by decide +kernel) rfl
theorem q122 : Cond.fieldLink RX2 9 "EscheatLots$Office" "settings" "[I" ∈ TB := tb_at 122 (by decide +kernel) rfl
theorem q123 : Cond.fieldLink RX2 18 "EscheatLots$Office" "lots" "LEscheatLots$Lots;" ∈ TB := tb_at 123 (by decide +kernel) rfl
theorem q124 : Cond.fieldLink RX4 149 "EscheatLots$Office" "lots" "LEscheatLots$Lots;" ∈ TB := tb_at 124 (by decide +kernel) rfl
theorem q125 : Cond.fieldLink RX2 25 "EscheatLots$Office" "claims" "LEscheatLots$Claims;" ∈ TB := tb_at 125 (by decide +kernel) rfl
theorem q126 : Cond.fieldLink RX2 29 "EscheatLots$Office" "paidOrder" "[I" ∈ TB := tb_at 126 (by decide +kernel) rfl
theorem q127 : Cond.fieldLink RX2 32 "EscheatLots$Office" "paidHeirs" "I" ∈ TB := tb_at 127 (by decide +kernel) rfl
theorem q128 : Cond.fieldLink RX2 36 "EscheatLots$Office" "crown" "I" ∈ TB := tb_at 128 (by decide +kernel) rfl
theorem q129 : Cond.fieldLink RX2 39 "EscheatLots$Office" "day" "I" ∈ TB := tb_at 129 (by decide +kernel) rfl
theorem q130 : Cond.laysFinal RX2 "EscheatLots$Office" "settings" "[I" ∈ TB := tb_at 130 (by decide +kernel) rfl
theorem q132 : Cond.laysFinal RX2 "EscheatLots$Office" "lots" "LEscheatLots$Lots;" ∈ TB := tb_at 132 (by decide +kernel) rfl
theorem q134 : Cond.laysFinal RX2 "EscheatLots$Office" "claims" "LEscheatLots$Claims;" ∈ TB := tb_at 134 (by decide +kernel) rfl
theorem q136 : Cond.laysFinal RX2 "EscheatLots$Office" "paidOrder" "[I" ∈ TB := tb_at 136 (by decide +kernel) rfl
theorem q138 : Cond.lays RX2 "EscheatLots$Office" "paidHeirs" "I" ∈ TB := tb_at 138 (by decide +kernel) rfl
theorem q140 : Cond.lays RX2 "EscheatLots$Office" "crown" "I" ∈ TB := tb_at 140 (by decide +kernel) rfl
theorem q142 : Cond.lays RX2 "EscheatLots$Office" "day" "I" ∈ TB := tb_at 142 (by decide +kernel) rfl
theorem q145 : Cond.classLink RX4 16 RX3 ∈ TB := tb_at 145 (by decide +kernel) rfl
theorem q146 : Cond.instantiable RX3 7 ∈ TB := tb_at 146 (by decide +kernel) rfl
theorem q147 : Cond.methodLinkNest RX4 18 yX3_init RX4 ∈ NB := nb_at 147 (by decide +kernel) rfl
theorem q148 : Cond.instanceMethod yX3_init ∈ TB := tb_at 148 (by decide +kernel) rfl
set_option maxRecDepth 100000 in
theorem q149 : Cond.code yX3_init cX3_init 1 none ∈ TB := tb_at 149 rfl rfl
theorem q150 : Cond.methodLink RX3 3 Lib.objectInit ∈ TB := tb_at 150 (by decide +kernel) rfl
theorem q151 : Cond.fieldLink RX3 9 "EscheatLots$Pad" "text" "[C" ∈ TB := tb_at 151 (by decide +kernel) rfl
theorem q152 : Cond.fieldLink RX3 15 "EscheatLots$Pad" "length" "I" ∈ TB := tb_at 152 (by decide +kernel) rfl
theorem q153 : Cond.fieldLink RX4 86 "EscheatLots$Pad" "length" "I" ∈ TB := tb_at 153 (by decide +kernel) rfl
theorem q154 : Cond.fieldLink RX3 19 "EscheatLots$Pad" "at" "I" ∈ TB := tb_at 154 (by decide +kernel) rfl
theorem q155 : Cond.fieldLink RX4 118 "EscheatLots$Pad" "at" "I" ∈ TB := tb_at 155 (by decide +kernel) rfl
theorem q156 : Cond.fieldLink RX3 22 "EscheatLots$Pad" "kind" "C" ∈ TB := tb_at 156 (by decide +kernel) rfl
theorem q157 : Cond.fieldLink RX4 132 "EscheatLots$Pad" "kind" "C" ∈ TB := tb_at 157 (by decide +kernel) rfl
theorem q158 : Cond.fieldLink RX3 26 "EscheatLots$Pad" "first" "I" ∈ TB := tb_at 158 (by decide +kernel) rfl
theorem q159 : Cond.fieldLink RX4 136 "EscheatLots$Pad" "first" "I" ∈ TB := tb_at 159 (by decide +kernel) rfl
theorem q160 : Cond.fieldLink RX3 29 "EscheatLots$Pad" "second" "I" ∈ TB := tb_at 160 (by decide +kernel) rfl
theorem q161 : Cond.fieldLink RX4 139 "EscheatLots$Pad" "second" "I" ∈ TB := tb_at 161 (by decide +kernel) rfl
theorem q162 : Cond.fieldLink RX3 32 "EscheatLots$Pad" "third" "I" ∈ TB := tb_at 162 (by decide +kernel) rfl
theorem q163 : Cond.fieldLink RX4 142 "EscheatLots$Pad" "third" "I" ∈ TB := tb_at 163 (by decide +kernel) rfl
theorem q164 : Cond.laysFinal RX3 "EscheatLots$Pad" "text" "[C" ∈ TB := tb_at 164 (by decide +kernel) rfl
theorem q166 : Cond.lays RX3 "EscheatLots$Pad" "length" "I" ∈ TB := tb_at 166 (by decide +kernel) rfl
theorem q168 : Cond.lays RX3 "EscheatLots$Pad" "at" "I" ∈ TB := tb_at 168 (by decide +kernel) rfl
theorem q170 : Cond.lays RX3 "EscheatLots$Pad" "kind" "C" ∈ TB := tb_at 170 (by decide +kernel) rfl
theorem q172 : Cond.lays RX3 "EscheatLots$Pad" "first" "I" ∈ TB := tb_at 172 (by decide +kernel) rfl
theorem q174 : Cond.lays RX3 "EscheatLots$Pad" "second" "I" ∈ TB := tb_at 174 (by decide +kernel) rfl
theorem q176 : Cond.lays RX3 "EscheatLots$Pad" "third" "I" ∈ TB := tb_at 176 (by decide +kernel) rfl
theorem q179 : Cond.arrayClass .char ∈ TB := tb_at 179 (by decide +kernel) rfl
theorem q181 : Cond.fieldLink RX4 10 "EscheatLots" "office" "LEscheatLots$Office;" ∈ TB := tb_at 181 (by decide +kernel) rfl
theorem q182 : Cond.fieldLink RX4 19 "EscheatLots" "pad" "LEscheatLots$Pad;" ∈ TB := tb_at 182 (by decide +kernel) rfl
theorem q183 : Cond.fieldLink RX4 23 "EscheatLots" "history" "[LEscheatLots$Office;" ∈ TB := tb_at 183 (by decide +kernel) rfl
theorem q184 : Cond.fieldLink RX4 27 "EscheatLots" "changes" "I" ∈ TB := tb_at 184 (by decide +kernel) rfl
theorem q185 : Cond.fieldLink RX4 31 "EscheatLots" "slots" "[LEscheatLots$Office;" ∈ TB := tb_at 185 (by decide +kernel) rfl
theorem q186 : Cond.fieldLink RX4 34 "EscheatLots" "saved" "[Z" ∈ TB := tb_at 186 (by decide +kernel) rfl
theorem q187 : Cond.laysFinal RX4 "EscheatLots" "office" "LEscheatLots$Office;" ∈ TB := tb_at 187 (by decide +kernel) rfl
theorem q189 : Cond.laysFinal RX4 "EscheatLots" "pad" "LEscheatLots$Pad;" ∈ TB := tb_at 189 (by decide +kernel) rfl
theorem q191 : Cond.laysFinal RX4 "EscheatLots" "history" "[LEscheatLots$Office;" ∈ TB := tb_at 191 (by decide +kernel) rfl
theorem q193 : Cond.lays RX4 "EscheatLots" "changes" "I" ∈ TB := tb_at 193 (by decide +kernel) rfl
theorem q195 : Cond.laysFinal RX4 "EscheatLots" "slots" "[LEscheatLots$Office;" ∈ TB := tb_at 195 (by decide +kernel) rfl
theorem q197 : Cond.laysFinal RX4 "EscheatLots" "saved" "[Z" ∈ TB := tb_at 197 (by decide +kernel) rfl
theorem q200 : Cond.arrayClass .boolean ∈ TB := tb_at 200 (by decide +kernel) rfl
theorem q201 : Cond.methodLink RL 14 yX4_count ∈ TB := tb_at 201 (by decide +kernel) rfl
theorem q202 : Cond.instanceMethod yX4_count ∈ TB := tb_at 202 (by decide +kernel) rfl
theorem q203 : Cond.selects RX4 yX4_count yX4_count ∈ TB := tb_at 203 (by decide +kernel) rfl
set_option maxRecDepth 100000 in
theorem q204 : Cond.code yX4_count cX4_count 2 (some .int) ∈ TB := tb_at 204 rfl rfl
theorem q205 : Cond.methodLink RX4 89 yX2_number ∈ TB := tb_at 205 (by decide +kernel) rfl
theorem q206 : Cond.instanceMethod yX2_number ∈ TB := tb_at 206 (by decide +kernel) rfl
theorem q207 : Cond.selects RX2 yX2_number yX2_number ∈ TB := tb_at 207 (by decide +kernel) rfl
set_option maxRecDepth 100000 in
theorem q208 : Cond.code yX2_number cX2_number 2 (some .int) ∈ TB := tb_at 208 rfl rfl
theorem q209 : Cond.methodLink RX2 75 yX1_inState ∈ TB := tb_at 209 (by decide +kernel) rfl
theorem q210 : Cond.instanceMethod yX1_inState ∈ TB := tb_at 210 (by decide +kernel) rfl
theorem q211 : Cond.selects RX1 yX1_inState yX1_inState ∈ TB := tb_at 211 (by decide +kernel) rfl
set_option maxRecDepth 100000 in
theorem q212 : Cond.code yX1_inState cX1_inState 2 (some .int) ∈ TB := tb_at 212 rfl rfl
theorem q213 : Cond.methodLinkNest RX1 36 yX4_rowsWith RX4 ∈ NB := nb_at 213 (by decide +kernel) rfl
theorem q214 : Cond.static yX4_rowsWith ∈ TB := tb_at 214 (by decide +kernel) rfl
set_option maxRecDepth 100000 in
theorem q215 : Cond.code yX4_rowsWith cX4_rowsWith 5 (some .int) ∈ TB := tb_at 215 rfl rfl
theorem q216 : Cond.methodLink RX2 197 yX1_all ∈ TB := tb_at 216 (by decide +kernel) rfl
theorem q217 : Cond.instanceMethod yX1_all ∈ TB := tb_at 217 (by decide +kernel) rfl
theorem q218 : Cond.selects RX1 yX1_all yX1_all ∈ TB := tb_at 218 (by decide +kernel) rfl
set_option maxRecDepth 100000 in
theorem q219 : Cond.code yX1_all cX1_all 1 (some .int) ∈ TB := tb_at 219 rfl rfl
theorem q220 : Cond.methodLinkNest RX1 32 yX4_firstOnes RX4 ∈ NB := nb_at 220 (by decide +kernel) rfl
theorem q221 : Cond.static yX4_firstOnes ∈ TB := tb_at 221 (by decide +kernel) rfl
set_option maxRecDepth 100000 in
theorem q222 : Cond.code yX4_firstOnes cX4_firstOnes 1 (some .int) ∈ TB := tb_at 222 rfl rfl
theorem q223 : Cond.methodLinkNest RX2 194 yX4_sum RX4 ∈ NB := nb_at 223 (by decide +kernel) rfl
theorem q224 : Cond.static yX4_sum ∈ TB := tb_at 224 (by decide +kernel) rfl
set_option maxRecDepth 100000 in
theorem q225 : Cond.code yX4_sum cX4_sum 4 (some .int) ∈ TB := tb_at 225 rfl rfl
theorem q226 : Cond.methodLink RX4 161 yX4_holds ∈ TB := tb_at 226 (by decide +kernel) rfl
theorem q227 : Cond.static yX4_holds ∈ TB := tb_at 227 (by decide +kernel) rfl
set_option maxRecDepth 100000 in
theorem q228 : Cond.code yX4_holds cX4_holds 2 (some .boolean) ∈ TB := tb_at 228 rfl rfl
theorem q229 : Cond.methodLink RX2 200 yX0_all ∈ TB := tb_at 229 (by decide +kernel) rfl
theorem q230 : Cond.instanceMethod yX0_all ∈ TB := tb_at 230 (by decide +kernel) rfl
theorem q231 : Cond.selects RX0 yX0_all yX0_all ∈ TB := tb_at 231 (by decide +kernel) rfl
set_option maxRecDepth 100000 in
theorem q232 : Cond.code yX0_all cX0_all 1 (some .int) ∈ TB := tb_at 232 rfl rfl
theorem q233 : Cond.methodLinkNest RX0 41 yX4_firstOnes RX4 ∈ NB := nb_at 233 (by decide +kernel) rfl
theorem q234 : Cond.methodLink RX2 184 yX0_standing ∈ TB := tb_at 234 (by decide +kernel) rfl
theorem q235 : Cond.instanceMethod yX0_standing ∈ TB := tb_at 235 (by decide +kernel) rfl
theorem q236 : Cond.selects RX0 yX0_standing yX0_standing ∈ TB := tb_at 236 (by decide +kernel) rfl
set_option maxRecDepth 100000 in
theorem q237 : Cond.code yX0_standing cX0_standing 1 (some .int) ∈ TB := tb_at 237 rfl rfl
theorem q238 : Cond.methodLink RX0 49 yX0_inState ∈ TB := tb_at 238 (by decide +kernel) rfl
theorem q239 : Cond.instanceMethod yX0_inState ∈ TB := tb_at 239 (by decide +kernel) rfl
theorem q240 : Cond.selects RX0 yX0_inState yX0_inState ∈ TB := tb_at 240 (by decide +kernel) rfl
set_option maxRecDepth 100000 in
theorem q241 : Cond.code yX0_inState cX0_inState 2 (some .int) ∈ TB := tb_at 241 rfl rfl
theorem q242 : Cond.methodLinkNest RX0 45 yX4_rowsWith RX4 ∈ NB := nb_at 242 (by decide +kernel) rfl
theorem q243 : Cond.methodLinkNest RX2 190 yX4_numbersIn RX4 ∈ NB := nb_at 243 (by decide +kernel) rfl
theorem q244 : Cond.static yX4_numbersIn ∈ TB := tb_at 244 (by decide +kernel) rfl
set_option maxRecDepth 100000 in
theorem q245 : Cond.code yX4_numbersIn cX4_numbersIn 4 (some .int) ∈ TB := tb_at 245 rfl rfl
theorem q246 : Cond.methodLink RX2 79 yJ6_bitCount_0f7a4 ∈ TB := tb_at 246 (by decide +kernel) rfl
theorem q247 : Cond.static yJ6_bitCount_0f7a4 ∈ TB := tb_at 247 (by decide +kernel) rfl
set_option maxRecDepth 100000 in
theorem q248 : Cond.code yJ6_bitCount_0f7a4 cJ6_bitCount_0f7a4 1 (some .int) ∈ TB := tb_at 248 rfl rfl
theorem q249 : Cond.constant RJ6 265 (1431655765) ∈ TB := tb_at 249 (by decide +kernel) rfl
theorem q250 : Cond.constant RJ6 266 (858993459) ∈ TB := tb_at 250 (by decide +kernel) rfl
theorem q251 : Cond.constant RJ6 267 (252645135) ∈ TB := tb_at 251 (by decide +kernel) rfl
theorem q252 : Cond.methodLink RL 106 yX4_undo ∈ TB := tb_at 252 (by decide +kernel) rfl
theorem q253 : Cond.instanceMethod yX4_undo ∈ TB := tb_at 253 (by decide +kernel) rfl
theorem q254 : Cond.selects RX4 yX4_undo yX4_undo ∈ TB := tb_at 254 (by decide +kernel) rfl
set_option maxRecDepth 100000 in
theorem q255 : Cond.code yX4_undo cX4_undo 1 (some .int) ∈ TB := tb_at 255 rfl rfl
theorem q256 : Cond.methodLink RX4 145 yX2_become ∈ TB := tb_at 256 (by decide +kernel) rfl
theorem q257 : Cond.instanceMethod yX2_become ∈ TB := tb_at 257 (by decide +kernel) rfl
theorem q258 : Cond.selects RX2 yX2_become yX2_become ∈ TB := tb_at 258 (by decide +kernel) rfl
set_option maxRecDepth 100000 in
theorem q259 : Cond.code yX2_become cX2_become 2 none ∈ TB := tb_at 259 rfl rfl
theorem q260 : Cond.methodLink RX2 49 yX1_become ∈ TB := tb_at 260 (by decide +kernel) rfl
theorem q261 : Cond.instanceMethod yX1_become ∈ TB := tb_at 261 (by decide +kernel) rfl
theorem q262 : Cond.selects RX1 yX1_become yX1_become ∈ TB := tb_at 262 (by decide +kernel) rfl
set_option maxRecDepth 100000 in
theorem q263 : Cond.code yX1_become cX1_become 2 none ∈ TB := tb_at 263 rfl rfl
theorem q264 : Cond.methodLinkNest RX1 28 yX4_copy RX4 ∈ NB := nb_at 264 (by decide +kernel) rfl
theorem q265 : Cond.methodLink RX2 53 yX0_become ∈ TB := tb_at 265 (by decide +kernel) rfl
theorem q266 : Cond.instanceMethod yX0_become ∈ TB := tb_at 266 (by decide +kernel) rfl
theorem q267 : Cond.selects RX0 yX0_become yX0_become ∈ TB := tb_at 267 (by decide +kernel) rfl
set_option maxRecDepth 100000 in
theorem q268 : Cond.code yX0_become cX0_become 2 none ∈ TB := tb_at 268 rfl rfl
theorem q269 : Cond.methodLinkNest RX0 37 yX4_copy RX4 ∈ NB := nb_at 269 (by decide +kernel) rfl
theorem q270 : Cond.methodLink RL 78 yX4_save ∈ TB := tb_at 270 (by decide +kernel) rfl
theorem q271 : Cond.instanceMethod yX4_save ∈ TB := tb_at 271 (by decide +kernel) rfl
theorem q272 : Cond.selects RX4 yX4_save yX4_save ∈ TB := tb_at 272 (by decide +kernel) rfl
set_option maxRecDepth 100000 in
theorem q273 : Cond.code yX4_save cX4_save 2 (some .int) ∈ TB := tb_at 273 rfl rfl
theorem q274 : Cond.methodLink RL 81 yX4_restore ∈ TB := tb_at 274 (by decide +kernel) rfl
theorem q275 : Cond.instanceMethod yX4_restore ∈ TB := tb_at 275 (by decide +kernel) rfl
theorem q276 : Cond.selects RX4 yX4_restore yX4_restore ∈ TB := tb_at 276 (by decide +kernel) rfl
set_option maxRecDepth 100000 in
theorem q277 : Cond.code yX4_restore cX4_restore 2 (some .int) ∈ TB := tb_at 277 rfl rfl
theorem q278 : Cond.methodLink RX4 38 yX4_draft ∈ TB := tb_at 278 (by decide +kernel) rfl
theorem q280 : Cond.instanceMethod yX4_draft ∈ TB := tb_at 280 (by decide +kernel) rfl
set_option maxRecDepth 100000 in
theorem q281 : Cond.code yX4_draft cX4_draft 1 none ∈ TB := tb_at 281 rfl rfl
theorem q282 : Cond.methodLink RX4 45 yX4_recorded ∈ TB := tb_at 282 (by decide +kernel) rfl
theorem q284 : Cond.instanceMethod yX4_recorded ∈ TB := tb_at 284 (by decide +kernel) rfl
set_option maxRecDepth 100000 in
theorem q285 : Cond.code yX4_recorded cX4_recorded 2 (some .int) ∈ TB := tb_at 285 rfl rfl
theorem q286 : Cond.methodLink RX4 158 yX4_dropOldest ∈ TB := tb_at 286 (by decide +kernel) rfl
theorem q288 : Cond.instanceMethod yX4_dropOldest ∈ TB := tb_at 288 (by decide +kernel) rfl
set_option maxRecDepth 100000 in
theorem q289 : Cond.code yX4_dropOldest cX4_dropOldest 3 none ∈ TB := tb_at 289 rfl rfl
theorem q290 : Cond.methodLink RL 112 yL_cell ∈ TB := tb_at 290 (by decide +kernel) rfl
theorem q291 : Cond.static yL_cell ∈ TB := tb_at 291 (by decide +kernel) rfl
set_option maxRecDepth 100000 in
theorem q292 : Cond.code yL_cell cL_cell 2 (some .int) ∈ TB := tb_at 292 rfl rfl
theorem q293 : Cond.constant RL 7 (431585811) ∈ TB := tb_at 293 (by decide +kernel) rfl
theorem q294 : Cond.constant RL 8 (71011) ∈ TB := tb_at 294 (by decide +kernel) rfl
theorem q295 : Cond.constant RL 9 (2147483647) ∈ TB := tb_at 295 (by decide +kernel) rfl
theorem q296 : Cond.methodLink RL 94 yL_seen ∈ TB := tb_at 296 (by decide +kernel) rfl
theorem q297 : Cond.static yL_seen ∈ TB := tb_at 297 (by decide +kernel) rfl
set_option maxRecDepth 100000 in
theorem q298 : Cond.code yL_seen cL_seen 4 (some .long) ∈ TB := tb_at 298 rfl rfl
theorem q299 : Cond.constantLong RL 10 (181) ∈ TB := tb_at 299 (by decide +kernel) rfl
theorem q300 : Cond.constantLong RL 12 (31) ∈ TB := tb_at 300 (by decide +kernel) rfl
theorem q301 : Cond.methodLink RL 20 yX4_paid ∈ TB := tb_at 301 (by decide +kernel) rfl
theorem q302 : Cond.instanceMethod yX4_paid ∈ TB := tb_at 302 (by decide +kernel) rfl
theorem q303 : Cond.selects RX4 yX4_paid yX4_paid ∈ TB := tb_at 303 (by decide +kernel) rfl
set_option maxRecDepth 100000 in
theorem q304 : Cond.code yX4_paid cX4_paid 2 (some .int) ∈ TB := tb_at 304 rfl rfl
theorem q305 : Cond.methodLink RX4 83 yX2_heirPaid ∈ TB := tb_at 305 (by decide +kernel) rfl
theorem q306 : Cond.instanceMethod yX2_heirPaid ∈ TB := tb_at 306 (by decide +kernel) rfl
theorem q307 : Cond.selects RX2 yX2_heirPaid yX2_heirPaid ∈ TB := tb_at 307 (by decide +kernel) rfl
set_option maxRecDepth 100000 in
theorem q308 : Cond.code yX2_heirPaid cX2_heirPaid 2 (some .int) ∈ TB := tb_at 308 rfl rfl
theorem q309 : Cond.methodLink RL 23 yX4_of ∈ TB := tb_at 309 (by decide +kernel) rfl
theorem q310 : Cond.instanceMethod yX4_of ∈ TB := tb_at 310 (by decide +kernel) rfl
theorem q311 : Cond.selects RX4 yX4_of yX4_of ∈ TB := tb_at 311 (by decide +kernel) rfl
set_option maxRecDepth 100000 in
theorem q312 : Cond.code yX4_of cX4_of 3 (some .int) ∈ TB := tb_at 312 rfl rfl
theorem q313 : Cond.methodLink RX4 74 yX2_aboutLot ∈ TB := tb_at 313 (by decide +kernel) rfl
theorem q314 : Cond.instanceMethod yX2_aboutLot ∈ TB := tb_at 314 (by decide +kernel) rfl
theorem q315 : Cond.selects RX2 yX2_aboutLot yX2_aboutLot ∈ TB := tb_at 315 (by decide +kernel) rfl
set_option maxRecDepth 100000 in
theorem q316 : Cond.code yX2_aboutLot cX2_aboutLot 3 (some .int) ∈ TB := tb_at 316 rfl rfl
theorem q317 : Cond.methodLink RX2 68 yX1_exists ∈ TB := tb_at 317 (by decide +kernel) rfl
theorem q318 : Cond.instanceMethod yX1_exists ∈ TB := tb_at 318 (by decide +kernel) rfl
theorem q319 : Cond.selects RX1 yX1_exists yX1_exists ∈ TB := tb_at 319 (by decide +kernel) rfl
set_option maxRecDepth 100000 in
theorem q320 : Cond.code yX1_exists cX1_exists 2 (some .boolean) ∈ TB := tb_at 320 rfl rfl
theorem q321 : Cond.methodLink RX2 93 yX0_standingTo ∈ TB := tb_at 321 (by decide +kernel) rfl
theorem q322 : Cond.instanceMethod yX0_standingTo ∈ TB := tb_at 322 (by decide +kernel) rfl
theorem q323 : Cond.selects RX0 yX0_standingTo yX0_standingTo ∈ TB := tb_at 323 (by decide +kernel) rfl
set_option maxRecDepth 100000 in
theorem q324 : Cond.code yX0_standingTo cX0_standingTo 2 (some .int) ∈ TB := tb_at 324 rfl rfl
theorem q325 : Cond.methodLink RX0 52 yX0_toLot ∈ TB := tb_at 325 (by decide +kernel) rfl
theorem q326 : Cond.instanceMethod yX0_toLot ∈ TB := tb_at 326 (by decide +kernel) rfl
theorem q327 : Cond.selects RX0 yX0_toLot yX0_toLot ∈ TB := tb_at 327 (by decide +kernel) rfl
set_option maxRecDepth 100000 in
theorem q328 : Cond.code yX0_toLot cX0_toLot 2 (some .int) ∈ TB := tb_at 328 rfl rfl
theorem q329 : Cond.methodLink RX0 55 yX0_standing ∈ TB := tb_at 329 (by decide +kernel) rfl
theorem q330 : Cond.methodLink RX2 178 yX0_toLot ∈ TB := tb_at 330 (by decide +kernel) rfl
theorem q331 : Cond.methodLink RX2 132 yX0_upheldTo ∈ TB := tb_at 331 (by decide +kernel) rfl
theorem q332 : Cond.instanceMethod yX0_upheldTo ∈ TB := tb_at 332 (by decide +kernel) rfl
theorem q333 : Cond.selects RX0 yX0_upheldTo yX0_upheldTo ∈ TB := tb_at 333 (by decide +kernel) rfl
set_option maxRecDepth 100000 in
theorem q334 : Cond.code yX0_upheldTo cX0_upheldTo 2 (some .int) ∈ TB := tb_at 334 rfl rfl
theorem q335 : Cond.methodLink RX2 181 yX0_nearestLine ∈ TB := tb_at 335 (by decide +kernel) rfl
theorem q336 : Cond.instanceMethod yX0_nearestLine ∈ TB := tb_at 336 (by decide +kernel) rfl
theorem q337 : Cond.selects RX0 yX0_nearestLine yX0_nearestLine ∈ TB := tb_at 337 (by decide +kernel) rfl
set_option maxRecDepth 100000 in
theorem q338 : Cond.code yX0_nearestLine cX0_nearestLine 4 (some .int) ∈ TB := tb_at 338 rfl rfl
theorem q339 : Cond.methodLinkNest RX0 62 yX4_holds RX4 ∈ NB := nb_at 339 (by decide +kernel) rfl
theorem q340 : Cond.methodLink RL 27 yX4_heir ∈ TB := tb_at 340 (by decide +kernel) rfl
theorem q341 : Cond.instanceMethod yX4_heir ∈ TB := tb_at 341 (by decide +kernel) rfl
theorem q342 : Cond.selects RX4 yX4_heir yX4_heir ∈ TB := tb_at 342 (by decide +kernel) rfl
set_option maxRecDepth 100000 in
theorem q343 : Cond.code yX4_heir cX4_heir 3 (some .int) ∈ TB := tb_at 343 rfl rfl
theorem q344 : Cond.methodLink RX4 80 yX2_aboutHeir ∈ TB := tb_at 344 (by decide +kernel) rfl
theorem q345 : Cond.instanceMethod yX2_aboutHeir ∈ TB := tb_at 345 (by decide +kernel) rfl
theorem q346 : Cond.selects RX2 yX2_aboutHeir yX2_aboutHeir ∈ TB := tb_at 346 (by decide +kernel) rfl
set_option maxRecDepth 100000 in
theorem q347 : Cond.code yX2_aboutHeir cX2_aboutHeir 3 (some .int) ∈ TB := tb_at 347 rfl rfl
theorem q348 : Cond.methodLink RX2 84 yX2_isHeir ∈ TB := tb_at 348 (by decide +kernel) rfl
theorem q349 : Cond.static yX2_isHeir ∈ TB := tb_at 349 (by decide +kernel) rfl
set_option maxRecDepth 100000 in
theorem q350 : Cond.code yX2_isHeir cX2_isHeir 1 (some .boolean) ∈ TB := tb_at 350 rfl rfl
theorem q351 : Cond.methodLink RX2 159 yX2_purse ∈ TB := tb_at 351 (by decide +kernel) rfl
theorem q353 : Cond.instanceMethod yX2_purse ∈ TB := tb_at 353 (by decide +kernel) rfl
set_option maxRecDepth 100000 in
theorem q354 : Cond.code yX2_purse cX2_purse 2 (some .int) ∈ TB := tb_at 354 rfl rfl
theorem q355 : Cond.methodLink RX2 90 yX0_ofHeir ∈ TB := tb_at 355 (by decide +kernel) rfl
theorem q356 : Cond.instanceMethod yX0_ofHeir ∈ TB := tb_at 356 (by decide +kernel) rfl
theorem q357 : Cond.selects RX0 yX0_ofHeir yX0_ofHeir ∈ TB := tb_at 357 (by decide +kernel) rfl
set_option maxRecDepth 100000 in
theorem q358 : Cond.code yX0_ofHeir cX0_ofHeir 2 (some .int) ∈ TB := tb_at 358 rfl rfl
theorem q359 : Cond.methodLink RX2 187 yX0_thatBrought ∈ TB := tb_at 359 (by decide +kernel) rfl
theorem q360 : Cond.instanceMethod yX0_thatBrought ∈ TB := tb_at 360 (by decide +kernel) rfl
theorem q361 : Cond.selects RX0 yX0_thatBrought yX0_thatBrought ∈ TB := tb_at 361 (by decide +kernel) rfl
set_option maxRecDepth 100000 in
theorem q362 : Cond.code yX0_thatBrought cX0_thatBrought 1 (some .int) ∈ TB := tb_at 362 rfl rfl
theorem q363 : Cond.methodLink RX0 59 yX0_all ∈ TB := tb_at 363 (by decide +kernel) rfl
theorem q364 : Cond.methodLink RL 30 yX4_ofClaim ∈ TB := tb_at 364 (by decide +kernel) rfl
theorem q365 : Cond.instanceMethod yX4_ofClaim ∈ TB := tb_at 365 (by decide +kernel) rfl
theorem q366 : Cond.selects RX4 yX4_ofClaim yX4_ofClaim ∈ TB := tb_at 366 (by decide +kernel) rfl
set_option maxRecDepth 100000 in
theorem q367 : Cond.code yX4_ofClaim cX4_ofClaim 3 (some .int) ∈ TB := tb_at 367 rfl rfl
theorem q368 : Cond.methodLink RX4 77 yX2_aboutClaim ∈ TB := tb_at 368 (by decide +kernel) rfl
theorem q369 : Cond.instanceMethod yX2_aboutClaim ∈ TB := tb_at 369 (by decide +kernel) rfl
theorem q370 : Cond.selects RX2 yX2_aboutClaim yX2_aboutClaim ∈ TB := tb_at 370 (by decide +kernel) rfl
set_option maxRecDepth 100000 in
theorem q371 : Cond.code yX2_aboutClaim cX2_aboutClaim 3 (some .int) ∈ TB := tb_at 371 rfl rfl
theorem q372 : Cond.methodLink RX2 112 yX0_exists ∈ TB := tb_at 372 (by decide +kernel) rfl
theorem q373 : Cond.instanceMethod yX0_exists ∈ TB := tb_at 373 (by decide +kernel) rfl
theorem q374 : Cond.selects RX0 yX0_exists yX0_exists ∈ TB := tb_at 374 (by decide +kernel) rfl
set_option maxRecDepth 100000 in
theorem q375 : Cond.code yX0_exists cX0_exists 2 (some .boolean) ∈ TB := tb_at 375 rfl rfl
theorem q376 : Cond.methodLink RL 124 yL_areLots ∈ TB := tb_at 376 (by decide +kernel) rfl
theorem q377 : Cond.static yL_areLots ∈ TB := tb_at 377 (by decide +kernel) rfl
set_option maxRecDepth 100000 in
theorem q378 : Cond.code yL_areLots cL_areLots 12 (some .boolean) ∈ TB := tb_at 378 rfl rfl
theorem q379 : Cond.methodLink RL 33 yX4_why ∈ TB := tb_at 379 (by decide +kernel) rfl
theorem q380 : Cond.instanceMethod yX4_why ∈ TB := tb_at 380 (by decide +kernel) rfl
theorem q381 : Cond.selects RX4 yX4_why yX4_why ∈ TB := tb_at 381 (by decide +kernel) rfl
set_option maxRecDepth 100000 in
theorem q382 : Cond.code yX4_why cX4_why 2 (some .int) ∈ TB := tb_at 382 rfl rfl
theorem q383 : Cond.methodLink RX4 92 yX2_whyNot ∈ TB := tb_at 383 (by decide +kernel) rfl
theorem q384 : Cond.instanceMethod yX2_whyNot ∈ TB := tb_at 384 (by decide +kernel) rfl
theorem q385 : Cond.selects RX2 yX2_whyNot yX2_whyNot ∈ TB := tb_at 385 (by decide +kernel) rfl
set_option maxRecDepth 100000 in
theorem q386 : Cond.code yX2_whyNot cX2_whyNot 2 (some .int) ∈ TB := tb_at 386 rfl rfl
theorem q387 : Cond.methodLink RX2 135 yX0_openTo ∈ TB := tb_at 387 (by decide +kernel) rfl
theorem q388 : Cond.instanceMethod yX0_openTo ∈ TB := tb_at 388 (by decide +kernel) rfl
theorem q389 : Cond.selects RX0 yX0_openTo yX0_openTo ∈ TB := tb_at 389 (by decide +kernel) rfl
set_option maxRecDepth 100000 in
theorem q390 : Cond.code yX0_openTo cX0_openTo 2 (some .int) ∈ TB := tb_at 390 rfl rfl
theorem q391 : Cond.methodLink RL 38 yX4_fallsIn ∈ TB := tb_at 391 (by decide +kernel) rfl
theorem q392 : Cond.instanceMethod yX4_fallsIn ∈ TB := tb_at 392 (by decide +kernel) rfl
theorem q393 : Cond.selects RX4 yX4_fallsIn yX4_fallsIn ∈ TB := tb_at 393 (by decide +kernel) rfl
set_option maxRecDepth 100000 in
theorem q394 : Cond.code yX4_fallsIn cX4_fallsIn 2 (some .int) ∈ TB := tb_at 394 rfl rfl
theorem q395 : Cond.methodLink RX4 95 yX2_daysToFall ∈ TB := tb_at 395 (by decide +kernel) rfl
theorem q396 : Cond.instanceMethod yX2_daysToFall ∈ TB := tb_at 396 (by decide +kernel) rfl
theorem q397 : Cond.selects RX2 yX2_daysToFall yX2_daysToFall ∈ TB := tb_at 397 (by decide +kernel) rfl
set_option maxRecDepth 100000 in
theorem q398 : Cond.code yX2_daysToFall cX2_daysToFall 2 (some .int) ∈ TB := tb_at 398 rfl rfl
theorem q399 : Cond.methodLink RX2 201 yX2_idleDays ∈ TB := tb_at 399 (by decide +kernel) rfl
theorem q401 : Cond.instanceMethod yX2_idleDays ∈ TB := tb_at 401 (by decide +kernel) rfl
set_option maxRecDepth 100000 in
theorem q402 : Cond.code yX2_idleDays cX2_idleDays 5 (some .int) ∈ TB := tb_at 402 rfl rfl
theorem q403 : Cond.methodLinkNest RX2 144 yX4_holds RX4 ∈ NB := nb_at 403 (by decide +kernel) rfl
theorem q404 : Cond.methodLink RX2 207 yX2_daysToLapse ∈ TB := tb_at 404 (by decide +kernel) rfl
theorem q406 : Cond.instanceMethod yX2_daysToLapse ∈ TB := tb_at 406 (by decide +kernel) rfl
set_option maxRecDepth 100000 in
theorem q407 : Cond.code yX2_daysToLapse cX2_daysToLapse 2 (some .int) ∈ TB := tb_at 407 rfl rfl
theorem q408 : Cond.methodLink RX2 204 Lib.Math.max.name ∈ TB := tb_at 408 (by decide +kernel) rfl
theorem q409 : Cond.static Lib.Math.max.name ∈ TB := tb_at 409 (by decide +kernel) rfl
set_option maxRecDepth 100000 in
theorem q410 : Cond.code Lib.Math.max.name Lib.Math.max.code 2 (some .int) ∈ TB := tb_at 410 rfl rfl
theorem q411 : Cond.methodLink RL 41 yX4_nextFall ∈ TB := tb_at 411 (by decide +kernel) rfl
theorem q412 : Cond.instanceMethod yX4_nextFall ∈ TB := tb_at 412 (by decide +kernel) rfl
theorem q413 : Cond.selects RX4 yX4_nextFall yX4_nextFall ∈ TB := tb_at 413 (by decide +kernel) rfl
set_option maxRecDepth 100000 in
theorem q414 : Cond.code yX4_nextFall cX4_nextFall 2 (some .int) ∈ TB := tb_at 414 rfl rfl
theorem q415 : Cond.methodLink RX4 101 yX2_firstFall ∈ TB := tb_at 415 (by decide +kernel) rfl
theorem q416 : Cond.instanceMethod yX2_firstFall ∈ TB := tb_at 416 (by decide +kernel) rfl
theorem q417 : Cond.selects RX2 yX2_firstFall yX2_firstFall ∈ TB := tb_at 417 (by decide +kernel) rfl
set_option maxRecDepth 100000 in
theorem q418 : Cond.code yX2_firstFall cX2_firstFall 6 (some .int) ∈ TB := tb_at 418 rfl rfl
theorem q419 : Cond.methodLink RX2 210 yX2_daysToFall ∈ TB := tb_at 419 (by decide +kernel) rfl
theorem q420 : Cond.methodLink RL 120 yL_areClaims ∈ TB := tb_at 420 (by decide +kernel) rfl
theorem q421 : Cond.static yL_areClaims ∈ TB := tb_at 421 (by decide +kernel) rfl
set_option maxRecDepth 100000 in
theorem q422 : Cond.code yL_areClaims cL_areClaims 10 (some .boolean) ∈ TB := tb_at 422 rfl rfl
theorem q423 : Cond.methodLink RL 44 yX4_nextLapse ∈ TB := tb_at 423 (by decide +kernel) rfl
theorem q424 : Cond.instanceMethod yX4_nextLapse ∈ TB := tb_at 424 (by decide +kernel) rfl
theorem q425 : Cond.selects RX4 yX4_nextLapse yX4_nextLapse ∈ TB := tb_at 425 (by decide +kernel) rfl
set_option maxRecDepth 100000 in
theorem q426 : Cond.code yX4_nextLapse cX4_nextLapse 2 (some .int) ∈ TB := tb_at 426 rfl rfl
theorem q427 : Cond.methodLink RX4 104 yX2_firstLapse ∈ TB := tb_at 427 (by decide +kernel) rfl
theorem q428 : Cond.instanceMethod yX2_firstLapse ∈ TB := tb_at 428 (by decide +kernel) rfl
theorem q429 : Cond.selects RX2 yX2_firstLapse yX2_firstLapse ∈ TB := tb_at 429 (by decide +kernel) rfl
set_option maxRecDepth 100000 in
theorem q430 : Cond.code yX2_firstLapse cX2_firstLapse 4 (some .int) ∈ TB := tb_at 430 rfl rfl
theorem q431 : Cond.methodLink RX2 113 yX0_isOpen ∈ TB := tb_at 431 (by decide +kernel) rfl
theorem q432 : Cond.instanceMethod yX0_isOpen ∈ TB := tb_at 432 (by decide +kernel) rfl
theorem q433 : Cond.selects RX0 yX0_isOpen yX0_isOpen ∈ TB := tb_at 433 (by decide +kernel) rfl
set_option maxRecDepth 100000 in
theorem q434 : Cond.code yX0_isOpen cX0_isOpen 2 (some .boolean) ∈ TB := tb_at 434 rfl rfl
theorem q435 : Cond.methodLink RX2 213 yX2_lapsesAhead ∈ TB := tb_at 435 (by decide +kernel) rfl
theorem q437 : Cond.instanceMethod yX2_lapsesAhead ∈ TB := tb_at 437 (by decide +kernel) rfl
set_option maxRecDepth 100000 in
theorem q438 : Cond.code yX2_lapsesAhead cX2_lapsesAhead 5 (some .boolean) ∈ TB := tb_at 438 rfl rfl
theorem q439 : Cond.methodLink RL 109 yL_refuses ∈ TB := tb_at 439 (by decide +kernel) rfl
theorem q440 : Cond.static yL_refuses ∈ TB := tb_at 440 (by decide +kernel) rfl
set_option maxRecDepth 100000 in
theorem q441 : Cond.code yL_refuses cL_refuses 5 (some .boolean) ∈ TB := tb_at 441 rfl rfl
theorem q442 : Cond.methodLink RL 98 yL_refusesAny ∈ TB := tb_at 442 (by decide +kernel) rfl
theorem q443 : Cond.static yL_refusesAny ∈ TB := tb_at 443 (by decide +kernel) rfl
set_option maxRecDepth 100000 in
theorem q444 : Cond.code yL_refusesAny cL_refusesAny 7 (some .boolean) ∈ TB := tb_at 444 rfl rfl
theorem q445 : Cond.methodLink RL 47 yX4_set ∈ TB := tb_at 445 (by decide +kernel) rfl
theorem q446 : Cond.instanceMethod yX4_set ∈ TB := tb_at 446 (by decide +kernel) rfl
theorem q447 : Cond.selects RX4 yX4_set yX4_set ∈ TB := tb_at 447 (by decide +kernel) rfl
set_option maxRecDepth 100000 in
theorem q448 : Cond.code yX4_set cX4_set 3 (some .int) ∈ TB := tb_at 448 rfl rfl
theorem q449 : Cond.methodLink RX4 41 yX2_changeSetting ∈ TB := tb_at 449 (by decide +kernel) rfl
theorem q450 : Cond.instanceMethod yX2_changeSetting ∈ TB := tb_at 450 (by decide +kernel) rfl
theorem q451 : Cond.selects RX2 yX2_changeSetting yX2_changeSetting ∈ TB := tb_at 451 (by decide +kernel) rfl
set_option maxRecDepth 100000 in
theorem q452 : Cond.code yX2_changeSetting cX2_changeSetting 4 (some .int) ∈ TB := tb_at 452 rfl rfl
theorem q453 : Cond.fieldLinkNest RX2 56 "EscheatLots" "LEAST" "[I" RX4 ∈ NB := nb_at 453 (by decide +kernel) rfl
theorem q455 : Cond.fieldLinkNest RX2 59 "EscheatLots" "MOST" "[I" RX4 ∈ NB := nb_at 455 (by decide +kernel) rfl
theorem q457 : Cond.methodLink RL 50 yX4_lot ∈ TB := tb_at 457 (by decide +kernel) rfl
theorem q458 : Cond.instanceMethod yX4_lot ∈ TB := tb_at 458 (by decide +kernel) rfl
theorem q459 : Cond.selects RX4 yX4_lot yX4_lot ∈ TB := tb_at 459 (by decide +kernel) rfl
set_option maxRecDepth 100000 in
theorem q460 : Cond.code yX4_lot cX4_lot 2 (some .int) ∈ TB := tb_at 460 rfl rfl
theorem q461 : Cond.methodLink RX4 49 yX2_addLot ∈ TB := tb_at 461 (by decide +kernel) rfl
theorem q462 : Cond.instanceMethod yX2_addLot ∈ TB := tb_at 462 (by decide +kernel) rfl
theorem q463 : Cond.selects RX2 yX2_addLot yX2_addLot ∈ TB := tb_at 463 (by decide +kernel) rfl
set_option maxRecDepth 100000 in
theorem q464 : Cond.code yX2_addLot cX2_addLot 3 (some .int) ∈ TB := tb_at 464 rfl rfl
theorem q465 : Cond.methodLink RL 53 yX4_notice ∈ TB := tb_at 465 (by decide +kernel) rfl
theorem q466 : Cond.instanceMethod yX4_notice ∈ TB := tb_at 466 (by decide +kernel) rfl
theorem q467 : Cond.selects RX4 yX4_notice yX4_notice ∈ TB := tb_at 467 (by decide +kernel) rfl
set_option maxRecDepth 100000 in
theorem q468 : Cond.code yX4_notice cX4_notice 2 (some .int) ∈ TB := tb_at 468 rfl rfl
theorem q469 : Cond.methodLink RX4 52 yX2_giveNotice ∈ TB := tb_at 469 (by decide +kernel) rfl
theorem q470 : Cond.instanceMethod yX2_giveNotice ∈ TB := tb_at 470 (by decide +kernel) rfl
theorem q471 : Cond.selects RX2 yX2_giveNotice yX2_giveNotice ∈ TB := tb_at 471 (by decide +kernel) rfl
set_option maxRecDepth 100000 in
theorem q472 : Cond.code yX2_giveNotice cX2_giveNotice 2 (some .int) ∈ TB := tb_at 472 rfl rfl
theorem q473 : Cond.methodLink RL 56 yX4_claim ∈ TB := tb_at 473 (by decide +kernel) rfl
theorem q474 : Cond.instanceMethod yX4_claim ∈ TB := tb_at 474 (by decide +kernel) rfl
theorem q475 : Cond.selects RX4 yX4_claim yX4_claim ∈ TB := tb_at 475 (by decide +kernel) rfl
set_option maxRecDepth 100000 in
theorem q476 : Cond.code yX4_claim cX4_claim 4 (some .int) ∈ TB := tb_at 476 rfl rfl
theorem q477 : Cond.methodLink RX4 55 yX2_addClaim ∈ TB := tb_at 477 (by decide +kernel) rfl
theorem q478 : Cond.instanceMethod yX2_addClaim ∈ TB := tb_at 478 (by decide +kernel) rfl
theorem q479 : Cond.selects RX2 yX2_addClaim yX2_addClaim ∈ TB := tb_at 479 (by decide +kernel) rfl
set_option maxRecDepth 100000 in
theorem q480 : Cond.code yX2_addClaim cX2_addClaim 5 (some .int) ∈ TB := tb_at 480 rfl rfl
theorem q481 : Cond.methodLink RX2 87 yX2_canBeClaimed ∈ TB := tb_at 481 (by decide +kernel) rfl
theorem q483 : Cond.instanceMethod yX2_canBeClaimed ∈ TB := tb_at 483 (by decide +kernel) rfl
set_option maxRecDepth 100000 in
theorem q484 : Cond.code yX2_canBeClaimed cX2_canBeClaimed 2 (some .boolean) ∈ TB := tb_at 484 rfl rfl
theorem q485 : Cond.methodLink RX2 109 yX1_isOver ∈ TB := tb_at 485 (by decide +kernel) rfl
theorem q486 : Cond.instanceMethod yX1_isOver ∈ TB := tb_at 486 (by decide +kernel) rfl
theorem q487 : Cond.selects RX1 yX1_isOver yX1_isOver ∈ TB := tb_at 487 (by decide +kernel) rfl
set_option maxRecDepth 100000 in
theorem q488 : Cond.code yX1_isOver cX1_isOver 2 (some .boolean) ∈ TB := tb_at 488 rfl rfl
theorem q489 : Cond.methodLink RL 60 yX4_prove ∈ TB := tb_at 489 (by decide +kernel) rfl
theorem q490 : Cond.instanceMethod yX4_prove ∈ TB := tb_at 490 (by decide +kernel) rfl
theorem q491 : Cond.selects RX4 yX4_prove yX4_prove ∈ TB := tb_at 491 (by decide +kernel) rfl
set_option maxRecDepth 100000 in
theorem q492 : Cond.code yX4_prove cX4_prove 3 (some .int) ∈ TB := tb_at 492 rfl rfl
theorem q493 : Cond.methodLink RX4 59 yX2_addProof ∈ TB := tb_at 493 (by decide +kernel) rfl
theorem q494 : Cond.instanceMethod yX2_addProof ∈ TB := tb_at 494 (by decide +kernel) rfl
theorem q495 : Cond.selects RX2 yX2_addProof yX2_addProof ∈ TB := tb_at 495 (by decide +kernel) rfl
set_option maxRecDepth 100000 in
theorem q496 : Cond.code yX2_addProof cX2_addProof 3 (some .int) ∈ TB := tb_at 496 rfl rfl
theorem q497 : Cond.methodLink RX2 119 Lib.Math.min.name ∈ TB := tb_at 497 (by decide +kernel) rfl
theorem q498 : Cond.methodLink RL 63 yX4_decide ∈ TB := tb_at 498 (by decide +kernel) rfl
theorem q499 : Cond.instanceMethod yX4_decide ∈ TB := tb_at 499 (by decide +kernel) rfl
theorem q500 : Cond.selects RX4 yX4_decide yX4_decide ∈ TB := tb_at 500 (by decide +kernel) rfl
set_option maxRecDepth 100000 in
theorem q501 : Cond.code yX4_decide cX4_decide 2 (some .int) ∈ TB := tb_at 501 rfl rfl
theorem q502 : Cond.methodLink RX4 62 yX2_judge ∈ TB := tb_at 502 (by decide +kernel) rfl
theorem q503 : Cond.instanceMethod yX2_judge ∈ TB := tb_at 503 (by decide +kernel) rfl
theorem q504 : Cond.selects RX2 yX2_judge yX2_judge ∈ TB := tb_at 504 (by decide +kernel) rfl
set_option maxRecDepth 100000 in
theorem q505 : Cond.code yX2_judge cX2_judge 2 (some .int) ∈ TB := tb_at 505 rfl rfl
theorem q506 : Cond.methodLink RL 66 yX4_withdraw ∈ TB := tb_at 506 (by decide +kernel) rfl
theorem q507 : Cond.instanceMethod yX4_withdraw ∈ TB := tb_at 507 (by decide +kernel) rfl
theorem q508 : Cond.selects RX4 yX4_withdraw yX4_withdraw ∈ TB := tb_at 508 (by decide +kernel) rfl
set_option maxRecDepth 100000 in
theorem q509 : Cond.code yX4_withdraw cX4_withdraw 2 (some .int) ∈ TB := tb_at 509 rfl rfl
theorem q510 : Cond.methodLink RX4 65 yX2_takeBack ∈ TB := tb_at 510 (by decide +kernel) rfl
theorem q511 : Cond.instanceMethod yX2_takeBack ∈ TB := tb_at 511 (by decide +kernel) rfl
theorem q512 : Cond.selects RX2 yX2_takeBack yX2_takeBack ∈ TB := tb_at 512 (by decide +kernel) rfl
set_option maxRecDepth 100000 in
theorem q513 : Cond.code yX2_takeBack cX2_takeBack 2 (some .int) ∈ TB := tb_at 513 rfl rfl
theorem q514 : Cond.methodLink RX2 129 yX0_stands ∈ TB := tb_at 514 (by decide +kernel) rfl
theorem q515 : Cond.instanceMethod yX0_stands ∈ TB := tb_at 515 (by decide +kernel) rfl
theorem q516 : Cond.selects RX0 yX0_stands yX0_stands ∈ TB := tb_at 516 (by decide +kernel) rfl
set_option maxRecDepth 100000 in
theorem q517 : Cond.code yX0_stands cX0_stands 2 (some .boolean) ∈ TB := tb_at 517 rfl rfl
theorem q518 : Cond.methodLink RL 69 yX4_settle ∈ TB := tb_at 518 (by decide +kernel) rfl
theorem q519 : Cond.instanceMethod yX4_settle ∈ TB := tb_at 519 (by decide +kernel) rfl
theorem q520 : Cond.selects RX4 yX4_settle yX4_settle ∈ TB := tb_at 520 (by decide +kernel) rfl
set_option maxRecDepth 100000 in
theorem q521 : Cond.code yX4_settle cX4_settle 2 (some .int) ∈ TB := tb_at 521 rfl rfl
theorem q522 : Cond.methodLink RX4 68 yX2_shareOut ∈ TB := tb_at 522 (by decide +kernel) rfl
theorem q523 : Cond.instanceMethod yX2_shareOut ∈ TB := tb_at 523 (by decide +kernel) rfl
theorem q524 : Cond.selects RX2 yX2_shareOut yX2_shareOut ∈ TB := tb_at 524 (by decide +kernel) rfl
set_option maxRecDepth 100000 in
theorem q525 : Cond.code yX2_shareOut cX2_shareOut 6 (some .int) ∈ TB := tb_at 525 rfl rfl
theorem q526 : Cond.methodLink RX2 138 yX2_coinsToShare ∈ TB := tb_at 526 (by decide +kernel) rfl
theorem q528 : Cond.instanceMethod yX2_coinsToShare ∈ TB := tb_at 528 (by decide +kernel) rfl
set_option maxRecDepth 100000 in
theorem q529 : Cond.code yX2_coinsToShare cX2_coinsToShare 3 (some .int) ∈ TB := tb_at 529 rfl rfl
theorem q530 : Cond.methodLink RX2 141 yX0_nearest ∈ TB := tb_at 530 (by decide +kernel) rfl
theorem q531 : Cond.instanceMethod yX0_nearest ∈ TB := tb_at 531 (by decide +kernel) rfl
theorem q532 : Cond.selects RX0 yX0_nearest yX0_nearest ∈ TB := tb_at 532 (by decide +kernel) rfl
set_option maxRecDepth 100000 in
theorem q533 : Cond.code yX0_nearest cX0_nearest 2 (some .int) ∈ TB := tb_at 533 rfl rfl
theorem q534 : Cond.methodLink RX0 66 yX0_nearestLine ∈ TB := tb_at 534 (by decide +kernel) rfl
theorem q535 : Cond.methodLink RX2 148 yX2_part ∈ TB := tb_at 535 (by decide +kernel) rfl
theorem q536 : Cond.static yX2_part ∈ TB := tb_at 536 (by decide +kernel) rfl
set_option maxRecDepth 100000 in
theorem q537 : Cond.code yX2_part cX2_part 5 (some .int) ∈ TB := tb_at 537 rfl rfl
theorem q538 : Cond.methodLink RX2 152 yX2_settleClaim ∈ TB := tb_at 538 (by decide +kernel) rfl
theorem q540 : Cond.instanceMethod yX2_settleClaim ∈ TB := tb_at 540 (by decide +kernel) rfl
set_option maxRecDepth 100000 in
theorem q541 : Cond.code yX2_settleClaim cX2_settleClaim 4 none ∈ TB := tb_at 541 rfl rfl
theorem q542 : Cond.methodLink RX2 156 yX2_leaveOffice ∈ TB := tb_at 542 (by decide +kernel) rfl
theorem q544 : Cond.instanceMethod yX2_leaveOffice ∈ TB := tb_at 544 (by decide +kernel) rfl
set_option maxRecDepth 100000 in
theorem q545 : Cond.code yX2_leaveOffice cX2_leaveOffice 3 none ∈ TB := tb_at 545 rfl rfl
theorem q546 : Cond.methodLink RL 72 yX4_pass ∈ TB := tb_at 546 (by decide +kernel) rfl
theorem q547 : Cond.instanceMethod yX4_pass ∈ TB := tb_at 547 (by decide +kernel) rfl
theorem q548 : Cond.selects RX4 yX4_pass yX4_pass ∈ TB := tb_at 548 (by decide +kernel) rfl
set_option maxRecDepth 100000 in
theorem q549 : Cond.code yX4_pass cX4_pass 2 (some .int) ∈ TB := tb_at 549 rfl rfl
theorem q550 : Cond.methodLink RX4 71 yX2_passDays ∈ TB := tb_at 550 (by decide +kernel) rfl
theorem q551 : Cond.instanceMethod yX2_passDays ∈ TB := tb_at 551 (by decide +kernel) rfl
theorem q552 : Cond.selects RX2 yX2_passDays yX2_passDays ∈ TB := tb_at 552 (by decide +kernel) rfl
set_option maxRecDepth 100000 in
theorem q553 : Cond.code yX2_passDays cX2_passDays 4 (some .int) ∈ TB := tb_at 553 rfl rfl
theorem q554 : Cond.methodLink RX2 165 yX2_passDay ∈ TB := tb_at 554 (by decide +kernel) rfl
theorem q556 : Cond.instanceMethod yX2_passDay ∈ TB := tb_at 556 (by decide +kernel) rfl
set_option maxRecDepth 100000 in
theorem q557 : Cond.code yX2_passDay cX2_passDay 4 (some .int) ∈ TB := tb_at 557 rfl rfl
theorem q558 : Cond.methodLink RX2 169 yX0_waitOneDay ∈ TB := tb_at 558 (by decide +kernel) rfl
theorem q559 : Cond.instanceMethod yX0_waitOneDay ∈ TB := tb_at 559 (by decide +kernel) rfl
theorem q560 : Cond.selects RX0 yX0_waitOneDay yX0_waitOneDay ∈ TB := tb_at 560 (by decide +kernel) rfl
set_option maxRecDepth 100000 in
theorem q561 : Cond.code yX0_waitOneDay cX0_waitOneDay 4 (some .int) ∈ TB := tb_at 561 rfl rfl
theorem q562 : Cond.methodLink RX0 69 yX0_isOpen ∈ TB := tb_at 562 (by decide +kernel) rfl
theorem q563 : Cond.methodLink RX0 73 yX0_waitLonger ∈ TB := tb_at 563 (by decide +kernel) rfl
theorem q565 : Cond.instanceMethod yX0_waitLonger ∈ TB := tb_at 565 (by decide +kernel) rfl
set_option maxRecDepth 100000 in
theorem q566 : Cond.code yX0_waitLonger cX0_waitLonger 3 none ∈ TB := tb_at 566 rfl rfl
theorem q567 : Cond.methodLink RX0 77 yX0_stands ∈ TB := tb_at 567 (by decide +kernel) rfl
theorem q568 : Cond.methodLink RX2 172 yX2_countDay ∈ TB := tb_at 568 (by decide +kernel) rfl
theorem q570 : Cond.instanceMethod yX2_countDay ∈ TB := tb_at 570 (by decide +kernel) rfl
set_option maxRecDepth 100000 in
theorem q571 : Cond.code yX2_countDay cX2_countDay 2 (some .int) ∈ TB := tb_at 571 rfl rfl
theorem q572 : Cond.methodLink RL 75 yX4_share ∈ TB := tb_at 572 (by decide +kernel) rfl
theorem q573 : Cond.instanceMethod yX4_share ∈ TB := tb_at 573 (by decide +kernel) rfl
theorem q574 : Cond.selects RX4 yX4_share yX4_share ∈ TB := tb_at 574 (by decide +kernel) rfl
set_option maxRecDepth 100000 in
theorem q575 : Cond.code yX4_share cX4_share 4 (some .int) ∈ TB := tb_at 575 rfl rfl
theorem q576 : Cond.methodLink RX4 98 yX2_wouldGet ∈ TB := tb_at 576 (by decide +kernel) rfl
theorem q577 : Cond.instanceMethod yX2_wouldGet ∈ TB := tb_at 577 (by decide +kernel) rfl
theorem q578 : Cond.selects RX2 yX2_wouldGet yX2_wouldGet ∈ TB := tb_at 578 (by decide +kernel) rfl
set_option maxRecDepth 100000 in
theorem q579 : Cond.code yX2_wouldGet cX2_wouldGet 5 (some .int) ∈ TB := tb_at 579 rfl rfl
theorem q580 : Cond.methodLink RL 84 yX4_wipe ∈ TB := tb_at 580 (by decide +kernel) rfl
theorem q581 : Cond.instanceMethod yX4_wipe ∈ TB := tb_at 581 (by decide +kernel) rfl
theorem q582 : Cond.selects RX4 yX4_wipe yX4_wipe ∈ TB := tb_at 582 (by decide +kernel) rfl
set_option maxRecDepth 100000 in
theorem q583 : Cond.code yX4_wipe cX4_wipe 1 (some .int) ∈ TB := tb_at 583 rfl rfl
theorem q584 : Cond.methodLink RX4 111 yX3_empty ∈ TB := tb_at 584 (by decide +kernel) rfl
theorem q585 : Cond.instanceMethod yX3_empty ∈ TB := tb_at 585 (by decide +kernel) rfl
theorem q586 : Cond.selects RX3 yX3_empty yX3_empty ∈ TB := tb_at 586 (by decide +kernel) rfl
set_option maxRecDepth 100000 in
theorem q587 : Cond.code yX3_empty cX3_empty 2 (some .int) ∈ TB := tb_at 587 rfl rfl
theorem q588 : Cond.methodLink RL 88 yX4_carryOut ∈ TB := tb_at 588 (by decide +kernel) rfl
theorem q589 : Cond.instanceMethod yX4_carryOut ∈ TB := tb_at 589 (by decide +kernel) rfl
theorem q590 : Cond.selects RX4 yX4_carryOut yX4_carryOut ∈ TB := tb_at 590 (by decide +kernel) rfl
set_option maxRecDepth 100000 in
theorem q591 : Cond.code yX4_carryOut cX4_carryOut 2 (some .int) ∈ TB := tb_at 591 rfl rfl
theorem q592 : Cond.methodLink RX4 115 yX3_firstFault ∈ TB := tb_at 592 (by decide +kernel) rfl
theorem q593 : Cond.instanceMethod yX3_firstFault ∈ TB := tb_at 593 (by decide +kernel) rfl
theorem q594 : Cond.selects RX3 yX3_firstFault yX3_firstFault ∈ TB := tb_at 594 (by decide +kernel) rfl
set_option maxRecDepth 100000 in
theorem q595 : Cond.code yX3_firstFault cX3_firstFault 3 (some .int) ∈ TB := tb_at 595 rfl rfl
theorem q596 : Cond.methodLink RX3 43 yX3_readOrder ∈ TB := tb_at 596 (by decide +kernel) rfl
theorem q597 : Cond.instanceMethod yX3_readOrder ∈ TB := tb_at 597 (by decide +kernel) rfl
theorem q598 : Cond.selects RX3 yX3_readOrder yX3_readOrder ∈ TB := tb_at 598 (by decide +kernel) rfl
set_option maxRecDepth 100000 in
theorem q599 : Cond.code yX3_readOrder cX3_readOrder 1 (some .boolean) ∈ TB := tb_at 599 rfl rfl
theorem q600 : Cond.methodLink RX3 51 yX3_readFirst ∈ TB := tb_at 600 (by decide +kernel) rfl
theorem q602 : Cond.instanceMethod yX3_readFirst ∈ TB := tb_at 602 (by decide +kernel) rfl
set_option maxRecDepth 100000 in
theorem q603 : Cond.code yX3_readFirst cX3_readFirst 1 (some .boolean) ∈ TB := tb_at 603 rfl rfl
theorem q604 : Cond.methodLink RX3 60 yX3_readNumber ∈ TB := tb_at 604 (by decide +kernel) rfl
theorem q606 : Cond.instanceMethod yX3_readNumber ∈ TB := tb_at 606 (by decide +kernel) rfl
set_option maxRecDepth 100000 in
theorem q607 : Cond.code yX3_readNumber cX3_readNumber 4 (some .int) ∈ TB := tb_at 607 rfl rfl
theorem q608 : Cond.methodLink RX3 64 yX3_readDigit ∈ TB := tb_at 608 (by decide +kernel) rfl
theorem q610 : Cond.instanceMethod yX3_readDigit ∈ TB := tb_at 610 (by decide +kernel) rfl
set_option maxRecDepth 100000 in
theorem q611 : Cond.code yX3_readDigit cX3_readDigit 2 (some .int) ∈ TB := tb_at 611 rfl rfl
theorem q612 : Cond.methodLink RX3 47 yX3_readSign ∈ TB := tb_at 612 (by decide +kernel) rfl
theorem q613 : Cond.instanceMethod yX3_readSign ∈ TB := tb_at 613 (by decide +kernel) rfl
theorem q614 : Cond.selects RX3 yX3_readSign yX3_readSign ∈ TB := tb_at 614 (by decide +kernel) rfl
set_option maxRecDepth 100000 in
theorem q615 : Cond.code yX3_readSign cX3_readSign 2 (some .boolean) ∈ TB := tb_at 615 rfl rfl
theorem q616 : Cond.methodLink RX3 54 yX3_readSecond ∈ TB := tb_at 616 (by decide +kernel) rfl
theorem q618 : Cond.instanceMethod yX3_readSecond ∈ TB := tb_at 618 (by decide +kernel) rfl
set_option maxRecDepth 100000 in
theorem q619 : Cond.code yX3_readSecond cX3_readSecond 1 (some .boolean) ∈ TB := tb_at 619 rfl rfl
theorem q620 : Cond.methodLink RX3 57 yX3_readThird ∈ TB := tb_at 620 (by decide +kernel) rfl
theorem q622 : Cond.instanceMethod yX3_readThird ∈ TB := tb_at 622 (by decide +kernel) rfl
set_option maxRecDepth 100000 in
theorem q623 : Cond.code yX3_readThird cX3_readThird 1 (some .boolean) ∈ TB := tb_at 623 rfl rfl
theorem q624 : Cond.methodLink RX4 121 yX3_readOrder ∈ TB := tb_at 624 (by decide +kernel) rfl
theorem q625 : Cond.methodLink RX4 125 yX4_carryOutOrder ∈ TB := tb_at 625 (by decide +kernel) rfl
theorem q627 : Cond.instanceMethod yX4_carryOutOrder ∈ TB := tb_at 627 (by decide +kernel) rfl
set_option maxRecDepth 100000 in
theorem q628 : Cond.code yX4_carryOutOrder cX4_carryOutOrder 1 (some .int) ∈ TB := tb_at 628 rfl rfl
theorem q629 : Cond.methodLink RX4 128 yX3_readSign ∈ TB := tb_at 629 (by decide +kernel) rfl
theorem q630 : Cond.methodLink RL 91 yX4_fault ∈ TB := tb_at 630 (by decide +kernel) rfl
theorem q631 : Cond.instanceMethod yX4_fault ∈ TB := tb_at 631 (by decide +kernel) rfl
theorem q632 : Cond.selects RX4 yX4_fault yX4_fault ∈ TB := tb_at 632 (by decide +kernel) rfl
set_option maxRecDepth 100000 in
theorem q633 : Cond.code yX4_fault cX4_fault 1 (some .int) ∈ TB := tb_at 633 rfl rfl
theorem q634 : Cond.methodLink RL 116 yL_act ∈ TB := tb_at 634 (by decide +kernel) rfl
theorem q635 : Cond.static yL_act ∈ TB := tb_at 635 (by decide +kernel) rfl
set_option maxRecDepth 100000 in
theorem q636 : Cond.code yL_act cL_act 16 (some .int) ∈ TB := tb_at 636 rfl rfl
theorem q637 : Cond.methodLink RL 102 yL_size ∈ TB := tb_at 637 (by decide +kernel) rfl
theorem q638 : Cond.static yL_size ∈ TB := tb_at 638 (by decide +kernel) rfl
set_option maxRecDepth 100000 in
theorem q639 : Cond.code yL_size cL_size 3 (some .int) ∈ TB := tb_at 639 rfl rfl
theorem p0 : Cond.selects RX4 yX4_draft yX4_draft ∈ TB := tb_at 0 (by decide +kernel) rfl
theorem p1 : Cond.selects RX4 yX4_recorded yX4_recorded ∈ TB := tb_at 1 (by decide +kernel) rfl
theorem p2 : Cond.selects RX4 yX4_dropOldest yX4_dropOldest ∈ TB := tb_at 2 (by decide +kernel) rfl
theorem p3 : Cond.selects RX2 yX2_purse yX2_purse ∈ TB := tb_at 3 (by decide +kernel) rfl
theorem p4 : Cond.selects RX2 yX2_idleDays yX2_idleDays ∈ TB := tb_at 4 (by decide +kernel) rfl
theorem p5 : Cond.selects RX2 yX2_daysToLapse yX2_daysToLapse ∈ TB := tb_at 5 (by decide +kernel) rfl
theorem p6 : Cond.selects RX2 yX2_lapsesAhead yX2_lapsesAhead ∈ TB := tb_at 6 (by decide +kernel) rfl
theorem p7 : Cond.selects RX2 yX2_canBeClaimed yX2_canBeClaimed ∈ TB := tb_at 7 (by decide +kernel) rfl
theorem p8 : Cond.selects RX2 yX2_coinsToShare yX2_coinsToShare ∈ TB := tb_at 8 (by decide +kernel) rfl
theorem p9 : Cond.selects RX2 yX2_settleClaim yX2_settleClaim ∈ TB := tb_at 9 (by decide +kernel) rfl
theorem p10 : Cond.selects RX2 yX2_leaveOffice yX2_leaveOffice ∈ TB := tb_at 10 (by decide +kernel) rfl
theorem p11 : Cond.selects RX2 yX2_passDay yX2_passDay ∈ TB := tb_at 11 (by decide +kernel) rfl
theorem p12 : Cond.selects RX0 yX0_waitLonger yX0_waitLonger ∈ TB := tb_at 12 (by decide +kernel) rfl
theorem p13 : Cond.selects RX2 yX2_countDay yX2_countDay ∈ TB := tb_at 13 (by decide +kernel) rfl
theorem p14 : Cond.selects RX3 yX3_readFirst yX3_readFirst ∈ TB := tb_at 14 (by decide +kernel) rfl
theorem p15 : Cond.selects RX3 yX3_readNumber yX3_readNumber ∈ TB := tb_at 15 (by decide +kernel) rfl
theorem p16 : Cond.selects RX3 yX3_readDigit yX3_readDigit ∈ TB := tb_at 16 (by decide +kernel) rfl
theorem p17 : Cond.selects RX3 yX3_readSecond yX3_readSecond ∈ TB := tb_at 17 (by decide +kernel) rfl
theorem p18 : Cond.selects RX3 yX3_readThird yX3_readThird ∈ TB := tb_at 18 (by decide +kernel) rfl
theorem p19 : Cond.selects RX4 yX4_carryOutOrder yX4_carryOutOrder ∈ TB := tb_at 19 (by decide +kernel) rfl
