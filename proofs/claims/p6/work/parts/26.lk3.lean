/-! TABLES: the links stand in the tables (written by a program) -/
theorem lk145 : kAll "DoorPaintsModel" "firstDraft" cL145 := kOK_of (by decide +kernel : kOK "DoorPaintsModel" "firstDraft" cL145 cK145 = true)
theorem lk146_0 : kOK "DoorPaintsModel" "keepDraft" cL146_0 cK146_0 = true := by decide +kernel
theorem lk146_1 : kOK "DoorPaintsModel" "keepDraft" cL146_1 cK146_1 = true := by decide +kernel
theorem lk146 : kAll "DoorPaintsModel" "keepDraft" cL146 := kOK_app lk146_0 (kOK_of lk146_1)
theorem lk147 : kAll "DoorPaintsModel" "feed" cL147 := kOK_of (by decide +kernel : kOK "DoorPaintsModel" "feed" cL147 cK147 = true)
theorem lk148 : kAll "DoorPaintsModel" "in" cL148 := kOK_of (by decide +kernel : kOK "DoorPaintsModel" "in" cL148 cK148 = true)
theorem lk149 : kAll "DoorPaintsModel" "end" cL149 := kOK_of (by decide +kernel : kOK "DoorPaintsModel" "end" cL149 cK149 = true)
theorem lk150_0 : kOK "DoorPaintsModel" "text" cL150_0 cK150_0 = true := by decide +kernel
theorem lk150_1 : kOK "DoorPaintsModel" "text" cL150_1 cK150_1 = true := by decide +kernel
theorem lk150 : kAll "DoorPaintsModel" "text" cL150 := kOK_app lk150_0 (kOK_of lk150_1)
theorem lk151_0 : kOK "DoorPaintsModel" "next" cL151_0 cK151_0 = true := by decide +kernel
theorem lk151_1 : kOK "DoorPaintsModel" "next" cL151_1 cK151_1 = true := by decide +kernel
theorem lk151_2 : kOK "DoorPaintsModel" "next" cL151_2 cK151_2 = true := by decide +kernel
theorem lk151 : kAll "DoorPaintsModel" "next" cL151 := kOK_app lk151_0 (kOK_app lk151_1 (kOK_of lk151_2))
theorem lk152 : kAll "DoorPaintsModel" "byteAt" cL152 := kOK_of (by decide +kernel : kOK "DoorPaintsModel" "byteAt" cL152 cK152 = true)
theorem lk153 : kAll "DoorPaintsModel" "needs" cL153 := kOK_of (by decide +kernel : kOK "DoorPaintsModel" "needs" cL153 cK153 = true)
theorem lk154_0 : kOK "DoorPaintsModel" "readLine" cL154_0 cK154_0 = true := by decide +kernel
theorem lk154_1 : kOK "DoorPaintsModel" "readLine" cL154_1 cK154_1 = true := by decide +kernel
theorem lk154 : kAll "DoorPaintsModel" "readLine" cL154 := kOK_app lk154_0 (kOK_of lk154_1)
theorem lk155_0 : kOK "DoorPaintsModel" "lineNow" cL155_0 cK155_0 = true := by decide +kernel
theorem lk155_1 : kOK "DoorPaintsModel" "lineNow" cL155_1 cK155_1 = true := by decide +kernel
theorem lk155 : kAll "DoorPaintsModel" "lineNow" cL155 := kOK_app lk155_0 (kOK_of lk155_1)
theorem lk156 : kAll "DoorPaintsModel" "is" cL156 := kOK_of (by decide +kernel : kOK "DoorPaintsModel" "is" cL156 cK156 = true)
theorem lk157 : kAll "DoorPaintsModel" "ends" cL157 := kOK_of (by decide +kernel : kOK "DoorPaintsModel" "ends" cL157 cK157 = true)
theorem lk158 : kAll "DoorPaintsModel" "readLineOf" cL158 := kOK_of (by decide +kernel : kOK "DoorPaintsModel" "readLineOf" cL158 cK158 = true)
theorem lk159_0 : kOK "DoorPaintsModel" "readDoor" cL159_0 cK159_0 = true := by decide +kernel
theorem lk159_1 : kOK "DoorPaintsModel" "readDoor" cL159_1 cK159_1 = true := by decide +kernel
theorem lk159 : kAll "DoorPaintsModel" "readDoor" cL159 := kOK_app lk159_0 (kOK_of lk159_1)
theorem lk160 : kAll "DoorPaintsModel" "readNumber" cL160 := kOK_of (by decide +kernel : kOK "DoorPaintsModel" "readNumber" cL160 cK160 = true)
theorem lk161 : kAll "DoorPaintsModel" "looked" cL161 := kOK_of (by decide +kernel : kOK "DoorPaintsModel" "looked" cL161 cK161 = true)
theorem lk162_0 : kOK "DoorPaintsModel" "readNot" cL162_0 cK162_0 = true := by decide +kernel
theorem lk162_1 : kOK "DoorPaintsModel" "readNot" cL162_1 cK162_1 = true := by decide +kernel
theorem lk162 : kAll "DoorPaintsModel" "readNot" cL162 := kOK_app lk162_0 (kOK_of lk162_1)
theorem lk163_0 : kOK "DoorPaintsModel" "readPlan" cL163_0 cK163_0 = true := by decide +kernel
theorem lk163_1 : kOK "DoorPaintsModel" "readPlan" cL163_1 cK163_1 = true := by decide +kernel
theorem lk163 : kAll "DoorPaintsModel" "readPlan" cL163 := kOK_app lk163_0 (kOK_of lk163_1)
theorem lk164 : kAll "DoorPaintsModel" "isActLike" cL164 := kOK_of (by decide +kernel : kOK "DoorPaintsModel" "isActLike" cL164 cK164 = true)
theorem lk165 : kAll "DoorPaintsModel" "readVisitor" cL165 := kOK_of (by decide +kernel : kOK "DoorPaintsModel" "readVisitor" cL165 cK165 = true)
theorem lk166 : kAll "DoorPaintsModel" "fault" cL166 := kOK_of (by decide +kernel : kOK "DoorPaintsModel" "fault" cL166 cK166 = true)
theorem lk167_0 : kOK "DoorPaintsModel" "rule" cL167_0 cK167_0 = true := by decide +kernel
theorem lk167_1 : kOK "DoorPaintsModel" "rule" cL167_1 cK167_1 = true := by decide +kernel
theorem lk167 : kAll "DoorPaintsModel" "rule" cL167 := kOK_app lk167_0 (kOK_of lk167_1)
theorem lk168 : kAll "DoorPaintsModel" "starts" cL168 := kOK_of (by decide +kernel : kOK "DoorPaintsModel" "starts" cL168 cK168 = true)
theorem lk169 : kAll "DoorPaintsModel" "ofDoor" cL169 := kOK_of (by decide +kernel : kOK "DoorPaintsModel" "ofDoor" cL169 cK169 = true)
theorem lk170 : kAll "DoorPaintsModel" "of" cL170 := kOK_of (by decide +kernel : kOK "DoorPaintsModel" "of" cL170 cK170 = true)
theorem lk171 : kAll "DoorPaintsModel" "wrong" cL171 := kOK_of (by decide +kernel : kOK "DoorPaintsModel" "wrong" cL171 cK171 = true)
theorem lk172 : kAll "DoorPaintsModel" "isWrong" cL172 := kOK_of (by decide +kernel : kOK "DoorPaintsModel" "isWrong" cL172 cK172 = true)
theorem lk173 : kAll "DoorPaintsModel" "showsOf" cL173 := kOK_of (by decide +kernel : kOK "DoorPaintsModel" "showsOf" cL173 cK173 = true)
theorem lk174 : kAll "DoorPaintsModel" "layerOf" cL174 := kOK_of (by decide +kernel : kOK "DoorPaintsModel" "layerOf" cL174 cK174 = true)
theorem lk175 : kAll "DoorPaintsModel" "flag" cL175 := kOK_of (by decide +kernel : kOK "DoorPaintsModel" "flag" cL175 cK175 = true)
theorem lk176 : kAll "DoorPaintsModel" "visitor" cL176 := kOK_of (by decide +kernel : kOK "DoorPaintsModel" "visitor" cL176 cK176 = true)
theorem lk177 : kAll "DoorPaintsModel" "isVisitor" cL177 := kOK_of (by decide +kernel : kOK "DoorPaintsModel" "isVisitor" cL177 cK177 = true)
theorem lk178 : kAll "DoorPaintsModel" "brushOf" cL178 := kOK_of (by decide +kernel : kOK "DoorPaintsModel" "brushOf" cL178 cK178 = true)
theorem lk179 : kAll "DoorPaintsModel" "ownBrush" cL179 := kOK_of (by decide +kernel : kOK "DoorPaintsModel" "ownBrush" cL179 cK179 = true)
theorem lk180_0 : kOK "DoorPaintsModel" "door" cL180_0 cK180_0 = true := by decide +kernel
theorem lk180_1 : kOK "DoorPaintsModel" "door" cL180_1 cK180_1 = true := by decide +kernel
theorem lk180 : kAll "DoorPaintsModel" "door" cL180 := kOK_app lk180_0 (kOK_of lk180_1)
theorem lk181 : kAll "DoorPaintsModel" "isDoor" cL181 := kOK_of (by decide +kernel : kOK "DoorPaintsModel" "isDoor" cL181 cK181 = true)
theorem lk182 : kAll "DoorPaintsModel" "plan" cL182 := kOK_of (by decide +kernel : kOK "DoorPaintsModel" "plan" cL182 cK182 = true)
theorem lk183 : kAll "DoorPaintsModel" "uses" cL183 := kOK_of (by decide +kernel : kOK "DoorPaintsModel" "uses" cL183 cK183 = true)
theorem lk184 : kAll "DoorPaintsModel" "usesOf" cL184 := kOK_of (by decide +kernel : kOK "DoorPaintsModel" "usesOf" cL184 cK184 = true)
theorem lk185 : kAll "DoorPaintsModel" "visit" cL185 := kOK_of (by decide +kernel : kOK "DoorPaintsModel" "visit" cL185 cK185 = true)
theorem lk186 : kAll "DoorPaintsModel" "keepsOut" cL186 := kOK_of (by decide +kernel : kOK "DoorPaintsModel" "keepsOut" cL186 cK186 = true)
theorem lk187_0 : kOK "DoorPaintsModel" "visits" cL187_0 cK187_0 = true := by decide +kernel
theorem lk187_1 : kOK "DoorPaintsModel" "visits" cL187_1 cK187_1 = true := by decide +kernel
theorem lk187_2 : kOK "DoorPaintsModel" "visits" cL187_2 cK187_2 = true := by decide +kernel
theorem lk187 : kAll "DoorPaintsModel" "visits" cL187 := kOK_app lk187_0 (kOK_app lk187_1 (kOK_of lk187_2))
theorem lk188 : kAll "DoorPaintsModel" "becomesDoor" cL188 := kOK_of (by decide +kernel : kOK "DoorPaintsModel" "becomesDoor" cL188 cK188 = true)
theorem lk189 : kAll "DoorPaintsModel" "settles" cL189 := kOK_of (by decide +kernel : kOK "DoorPaintsModel" "settles" cL189 cK189 = true)
theorem lk190 : kAll "DoorPaintsModel" "sky" cL190 := kOK_of (by decide +kernel : kOK "DoorPaintsModel" "sky" cL190 cK190 = true)
theorem lk191 : kAll "DoorPaintsModel" "goesBy" cL191 := kOK_of (by decide +kernel : kOK "DoorPaintsModel" "goesBy" cL191 cK191 = true)
theorem lk192_0 : kOK "DoorPaintsModel" "rains" cL192_0 cK192_0 = true := by decide +kernel
theorem lk192_1 : kOK "DoorPaintsModel" "rains" cL192_1 cK192_1 = true := by decide +kernel
theorem lk192 : kAll "DoorPaintsModel" "rains" cL192 := kOK_app lk192_0 (kOK_of lk192_1)
theorem lk193 : kAll "DoorPaintsModel" "layers" cL193 := kOK_of (by decide +kernel : kOK "DoorPaintsModel" "layers" cL193 cK193 = true)
theorem lk194 : kAll "DoorPaintsModel" "scrape" cL194 := kOK_of (by decide +kernel : kOK "DoorPaintsModel" "scrape" cL194 cK194 = true)
theorem lk195 : kAll "DoorPaintsModel" "alter" cL195 := kOK_of (by decide +kernel : kOK "DoorPaintsModel" "alter" cL195 cK195 = true)
theorem lk196 : kAll "DoorPaintsModel" "mostOf" cL196 := kOK_of (by decide +kernel : kOK "DoorPaintsModel" "mostOf" cL196 cK196 = true)
theorem lk197 : kAll "DoorPaintsModel" "becomes" cL197 := kOK_of (by decide +kernel : kOK "DoorPaintsModel" "becomes" cL197 cK197 = true)
theorem lk198 : kAll "DoorPaintsModel" "ought" cL198 := kOK_of (by decide +kernel : kOK "DoorPaintsModel" "ought" cL198 cK198 = true)
theorem lk199 : kAll "DoorPaintsModel" "plans" cL199 := kOK_of (by decide +kernel : kOK "DoorPaintsModel" "plans" cL199 cK199 = true)
