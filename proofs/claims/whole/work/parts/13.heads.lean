abbrev rmX11_init : Room := ⟨6, 124, 24226, 92⟩
abbrev KX11_init (l : Launch) (E : JE) (av : List Value) (f : Hp) (P : Option Value → Hp → Prop) : Prop := Ct l E yX11_init cX11_init 1 none rmX11_init av f P
abbrev rmX2_init : Room := ⟨3, 2, 300, 30⟩
abbrev KX2_init (l : Launch) (E : JE) (av : List Value) (f : Hp) (P : Option Value → Hp → Prop) : Prop := Ct l E yX2_init cX2_init 1 none rmX2_init av f P
abbrev rmX10_init : Room := ⟨3, 1, 300, 30⟩
abbrev KX10_init (l : Launch) (E : JE) (av : List Value) (f : Hp) (P : Option Value → Hp → Prop) : Prop := Ct l E yX10_init cX10_init 1 none rmX10_init av f P
abbrev rmX4_init : Room := ⟨3, 1, 26, 30⟩
abbrev KX4_init (l : Launch) (E : JE) (av : List Value) (f : Hp) (P : Option Value → Hp → Prop) : Prop := Ct l E yX4_init cX4_init 1 none rmX4_init av f P
abbrev rmX9_init : Room := ⟨5, 107, 15531, 71⟩
abbrev KX9_init (l : Launch) (E : JE) (av : List Value) (f : Hp) (P : Option Value → Hp → Prop) : Prop := Ct l E yX9_init cX9_init 2 none rmX9_init av f P
abbrev rmX8_init : Room := ⟨3, 1, 400, 30⟩
abbrev KX8_init (l : Launch) (E : JE) (av : List Value) (f : Hp) (P : Option Value → Hp → Prop) : Prop := Ct l E yX8_init cX8_init 1 none rmX8_init av f P
abbrev rmX5_init : Room := ⟨4, 13, 84, 50⟩
abbrev KX5_init (l : Launch) (E : JE) (av : List Value) (f : Hp) (P : Option Value → Hp → Prop) : Prop := Ct l E yX5_init cX5_init 2 none rmX5_init av f P
abbrev rmX3_init : Room := ⟨3, 0, 0, 30⟩
abbrev KX3_init (l : Launch) (E : JE) (av : List Value) (f : Hp) (P : Option Value → Hp → Prop) : Prop := Ct l E yX3_init cX3_init 1 none rmX3_init av f P
abbrev rmX0_init : Room := ⟨3, 1, 4000, 30⟩
abbrev KX0_init (l : Launch) (E : JE) (av : List Value) (f : Hp) (P : Option Value → Hp → Prop) : Prop := Ct l E yX0_init cX0_init 1 none rmX0_init av f P
abbrev rmX1_init : Room := ⟨3, 2, 40, 30⟩
abbrev KX1_init (l : Launch) (E : JE) (av : List Value) (f : Hp) (P : Option Value → Hp → Prop) : Prop := Ct l E yX1_init cX1_init 1 none rmX1_init av f P
abbrev rmX6_init : Room := ⟨3, 0, 0, 30⟩
abbrev KX6_init (l : Launch) (E : JE) (av : List Value) (f : Hp) (P : Option Value → Hp → Prop) : Prop := Ct l E yX6_init cX6_init 1 none rmX6_init av f P
abbrev rmX11_tell : Room := ⟨1, 0, 0, 24⟩
abbrev KX11_tell (l : Launch) (E : JE) (av : List Value) (f : Hp) (P : Option Value → Hp → Prop) : Prop := Ct l E yX11_tell cX11_tell 5 (some .int) rmX11_tell av f P
abbrev rmX11_isWithin : Room := ⟨0, 0, 0, 0⟩
abbrev KX11_isWithin (l : Launch) (E : JE) (av : List Value) (f : Hp) (P : Option Value → Hp → Prop) : Prop := Ct l E yX11_isWithin cX11_isWithin 3 (some .boolean) rmX11_isWithin av f P
abbrev rmX11_refuse : Room := ⟨0, 0, 0, 0⟩
abbrev KX11_refuse (l : Launch) (E : JE) (av : List Value) (f : Hp) (P : Option Value → Hp → Prop) : Prop := Ct l E yX11_refuse cX11_refuse 2 (some .int) rmX11_refuse av f P
abbrev rmX7_pack : Room := ⟨0, 0, 0, 0⟩
abbrev KX7_pack (l : Launch) (E : JE) (av : List Value) (f : Hp) (P : Option Value → Hp → Prop) : Prop := Ct l E yX7_pack cX7_pack 5 (some .long) rmX7_pack av f P
abbrev rmX2_add : Room := ⟨0, 0, 0, 0⟩
abbrev KX2_add (l : Launch) (E : JE) (av : List Value) (f : Hp) (P : Option Value → Hp → Prop) : Prop := Ct l E yX2_add cX2_add 4 (some .boolean) rmX2_add av f P
abbrev rmX2_size : Room := ⟨0, 0, 0, 0⟩
abbrev KX2_size (l : Launch) (E : JE) (av : List Value) (f : Hp) (P : Option Value → Hp → Prop) : Prop := Ct l E yX2_size cX2_size 1 (some .int) rmX2_size av f P
abbrev rmX11_grant : Room := ⟨0, 0, 0, 0⟩
abbrev KX11_grant (l : Launch) (E : JE) (av : List Value) (f : Hp) (P : Option Value → Hp → Prop) : Prop := Ct l E yX11_grant cX11_grant 2 (some .int) rmX11_grant av f P
abbrev rmX11_feed : Room := ⟨1, 0, 0, 22⟩
abbrev KX11_feed (l : Launch) (E : JE) (av : List Value) (f : Hp) (P : Option Value → Hp → Prop) : Prop := Ct l E yX11_feed cX11_feed 6 (some .int) rmX11_feed av f P
abbrev rmX10_hasRoomFor : Room := ⟨0, 0, 0, 0⟩
abbrev KX10_hasRoomFor (l : Launch) (E : JE) (av : List Value) (f : Hp) (P : Option Value → Hp → Prop) : Prop := Ct l E yX10_hasRoomFor cX10_hasRoomFor 2 (some .boolean) rmX10_hasRoomFor av f P
abbrev rmX10_addNumber : Room := ⟨0, 0, 0, 0⟩
abbrev KX10_addNumber (l : Launch) (E : JE) (av : List Value) (f : Hp) (P : Option Value → Hp → Prop) : Prop := Ct l E yX10_addNumber cX10_addNumber 3 none rmX10_addNumber av f P
abbrev rmX10_length : Room := ⟨0, 0, 0, 0⟩
abbrev KX10_length (l : Launch) (E : JE) (av : List Value) (f : Hp) (P : Option Value → Hp → Prop) : Prop := Ct l E yX10_length cX10_length 1 (some .int) rmX10_length av f P
abbrev rmX11_end : Room := ⟨4, 0, 0, 51⟩
abbrev KX11_end (l : Launch) (E : JE) (av : List Value) (f : Hp) (P : Option Value → Hp → Prop) : Prop := Ct l E yX11_end cX11_end 2 (some .int) rmX11_end av f P
abbrev rmX10_cut : Room := ⟨3, 0, 0, 30⟩
abbrev KX10_cut (l : Launch) (E : JE) (av : List Value) (f : Hp) (P : Option Value → Hp → Prop) : Prop := Ct l E yX10_cut cX10_cut 2 none rmX10_cut av f P
abbrev rmX11_tables : Room := ⟨8, 0, 0, 181⟩
abbrev KX11_tables (l : Launch) (E : JE) (av : List Value) (f : Hp) (P : Option Value → Hp → Prop) : Prop := Ct l E yX11_tables cX11_tables 1 (some .int) rmX11_tables av f P
abbrev rmX9_draft : Room := ⟨0, 0, 0, 0⟩
abbrev KX9_draft (l : Launch) (E : JE) (av : List Value) (f : Hp) (P : Option Value → Hp → Prop) : Prop := Ct l E yX9_draft cX9_draft 1 (some (.object "TableStreams$Plan")) rmX9_draft av f P
abbrev rmX4_parse : Room := ⟨7, 0, 0, 156⟩
abbrev KX4_parse (l : Launch) (E : JE) (av : List Value) (f : Hp) (P : Option Value → Hp → Prop) : Prop := Ct l E yX4_parse cX4_parse 6 (some .int) rmX4_parse av f P
abbrev rmX5_clear : Room := ⟨0, 0, 0, 0⟩
abbrev KX5_clear (l : Launch) (E : JE) (av : List Value) (f : Hp) (P : Option Value → Hp → Prop) : Prop := Ct l E yX5_clear cX5_clear 1 none rmX5_clear av f P
abbrev rmX10_toFirstToken : Room := ⟨4, 0, 0, 50⟩
abbrev KX10_toFirstToken (l : Launch) (E : JE) (av : List Value) (f : Hp) (P : Option Value → Hp → Prop) : Prop := Ct l E yX10_toFirstToken cX10_toFirstToken 1 none rmX10_toFirstToken av f P
abbrev rmX10_toNextToken : Room := ⟨3, 0, 0, 30⟩
abbrev KX10_toNextToken (l : Launch) (E : JE) (av : List Value) (f : Hp) (P : Option Value → Hp → Prop) : Prop := Ct l E yX10_toNextToken cX10_toNextToken 1 none rmX10_toNextToken av f P
abbrev rmX10_isLetter : Room := ⟨0, 0, 0, 0⟩
abbrev KX10_isLetter (l : Launch) (E : JE) (av : List Value) (f : Hp) (P : Option Value → Hp → Prop) : Prop := Ct l E yX10_isLetter cX10_isLetter 2 (some .boolean) rmX10_isLetter av f P
abbrev rmX10_isDigit : Room := ⟨0, 0, 0, 0⟩
abbrev KX10_isDigit (l : Launch) (E : JE) (av : List Value) (f : Hp) (P : Option Value → Hp → Prop) : Prop := Ct l E yX10_isDigit cX10_isDigit 2 (some .boolean) rmX10_isDigit av f P
abbrev rmX5_at : Room := ⟨1, 0, 0, 22⟩
abbrev KX5_at (l : Launch) (E : JE) (av : List Value) (f : Hp) (P : Option Value → Hp → Prop) : Prop := Ct l E yX5_at cX5_at 2 (some (.object "TableStreams$Making")) rmX5_at av f P
abbrev rmX3_clear : Room := ⟨0, 0, 0, 0⟩
abbrev KX3_clear (l : Launch) (E : JE) (av : List Value) (f : Hp) (P : Option Value → Hp → Prop) : Prop := Ct l E yX3_clear cX3_clear 1 none rmX3_clear av f P
abbrev rmX4_takeNewName : Room := ⟨4, 0, 0, 50⟩
abbrev KX4_takeNewName (l : Launch) (E : JE) (av : List Value) (f : Hp) (P : Option Value → Hp → Prop) : Prop := Ct l E yX4_takeNewName cX4_takeNewName 3 (some .int) rmX4_takeNewName av f P
abbrev rmX10_letter : Room := ⟨1, 0, 0, 21⟩
abbrev KX10_letter (l : Launch) (E : JE) (av : List Value) (f : Hp) (P : Option Value → Hp → Prop) : Prop := Ct l E yX10_letter cX10_letter 1 (some .int) rmX10_letter av f P
abbrev rmX4_takeSign : Room := ⟨4, 0, 0, 50⟩
abbrev KX4_takeSign (l : Launch) (E : JE) (av : List Value) (f : Hp) (P : Option Value → Hp → Prop) : Prop := Ct l E yX4_takeSign cX4_takeSign 3 (some .boolean) rmX4_takeSign av f P
abbrev rmX10_isToken : Room := ⟨0, 0, 0, 0⟩
abbrev KX10_isToken (l : Launch) (E : JE) (av : List Value) (f : Hp) (P : Option Value → Hp → Prop) : Prop := Ct l E yX10_isToken cX10_isToken 2 (some .boolean) rmX10_isToken av f P
abbrev rmX4_takeKind : Room := ⟨5, 0, 0, 112⟩
abbrev KX4_takeKind (l : Launch) (E : JE) (av : List Value) (f : Hp) (P : Option Value → Hp → Prop) : Prop := Ct l E yX4_takeKind cX4_takeKind 4 (some .boolean) rmX4_takeKind av f P
abbrev rmX4_wordOf : Room := ⟨0, 0, 0, 0⟩
abbrev KX4_wordOf (l : Launch) (E : JE) (av : List Value) (f : Hp) (P : Option Value → Hp → Prop) : Prop := Ct l E yX4_wordOf cX4_wordOf 1 (some (.object "java/lang/String")) rmX4_wordOf av f P
abbrev rmX10_isToken_ : Room := ⟨4, 0, 0, 90⟩
abbrev KX10_isToken_ (l : Launch) (E : JE) (av : List Value) (f : Hp) (P : Option Value → Hp → Prop) : Prop := Ct l E yX10_isToken_ cX10_isToken_ 3 (some .boolean) rmX10_isToken_ av f P
abbrev rmX4_takeParts : Room := ⟨6, 0, 0, 134⟩
abbrev KX4_takeParts (l : Launch) (E : JE) (av : List Value) (f : Hp) (P : Option Value → Hp → Prop) : Prop := Ct l E yX4_takeParts cX4_takeParts 3 (some .boolean) rmX4_takeParts av f P
abbrev rmX4_takeDigits : Room := ⟨4, 0, 0, 52⟩
abbrev KX4_takeDigits (l : Launch) (E : JE) (av : List Value) (f : Hp) (P : Option Value → Hp → Prop) : Prop := Ct l E yX4_takeDigits cX4_takeDigits 6 (some .boolean) rmX4_takeDigits av f P
abbrev rmX10_digits : Room := ⟨3, 0, 0, 30⟩
abbrev KX10_digits (l : Launch) (E : JE) (av : List Value) (f : Hp) (P : Option Value → Hp → Prop) : Prop := Ct l E yX10_digits cX10_digits 3 (some .int) rmX10_digits av f P
abbrev rmX4_takeLeft : Room := ⟨5, 0, 0, 73⟩
abbrev KX4_takeLeft (l : Launch) (E : JE) (av : List Value) (f : Hp) (P : Option Value → Hp → Prop) : Prop := Ct l E yX4_takeLeft cX4_takeLeft 3 (some .boolean) rmX4_takeLeft av f P
abbrev rmX4_takeName : Room := ⟨4, 0, 0, 50⟩
abbrev KX4_takeName (l : Launch) (E : JE) (av : List Value) (f : Hp) (P : Option Value → Hp → Prop) : Prop := Ct l E yX4_takeName cX4_takeName 4 (some .int) rmX4_takeName av f P
abbrev rmX4_takeColumn : Room := ⟨5, 0, 0, 112⟩
abbrev KX4_takeColumn (l : Launch) (E : JE) (av : List Value) (f : Hp) (P : Option Value → Hp → Prop) : Prop := Ct l E yX4_takeColumn cX4_takeColumn 3 (some .boolean) rmX4_takeColumn av f P
abbrev rmX4_takeRelation : Room := ⟨5, 0, 0, 72⟩
abbrev KX4_takeRelation (l : Launch) (E : JE) (av : List Value) (f : Hp) (P : Option Value → Hp → Prop) : Prop := Ct l E yX4_takeRelation cX4_takeRelation 3 (some .boolean) rmX4_takeRelation av f P
abbrev rmX4_takeNumber : Room := ⟨5, 0, 0, 77⟩
abbrev KX4_takeNumber (l : Launch) (E : JE) (av : List Value) (f : Hp) (P : Option Value → Hp → Prop) : Prop := Ct l E yX4_takeNumber cX4_takeNumber 4 (some .boolean) rmX4_takeNumber av f P
abbrev rmX4_takeRight : Room := ⟨5, 0, 0, 73⟩
abbrev KX4_takeRight (l : Launch) (E : JE) (av : List Value) (f : Hp) (P : Option Value → Hp → Prop) : Prop := Ct l E yX4_takeRight cX4_takeRight 3 (some .boolean) rmX4_takeRight av f P
abbrev rmX10_place : Room := ⟨0, 0, 0, 0⟩
abbrev KX10_place (l : Launch) (E : JE) (av : List Value) (f : Hp) (P : Option Value → Hp → Prop) : Prop := Ct l E yX10_place cX10_place 1 (some .int) rmX10_place av f P
abbrev rmX5_add : Room := ⟨0, 0, 0, 0⟩
abbrev KX5_add (l : Launch) (E : JE) (av : List Value) (f : Hp) (P : Option Value → Hp → Prop) : Prop := Ct l E yX5_add cX5_add 1 none rmX5_add av f P
abbrev rmX10_isAtEnd : Room := ⟨0, 0, 0, 0⟩
abbrev KX10_isAtEnd (l : Launch) (E : JE) (av : List Value) (f : Hp) (P : Option Value → Hp → Prop) : Prop := Ct l E yX10_isAtEnd cX10_isAtEnd 1 (some .boolean) rmX10_isAtEnd av f P
abbrev rmX9_takeDraft : Room := ⟨0, 0, 0, 0⟩
abbrev KX9_takeDraft (l : Launch) (E : JE) (av : List Value) (f : Hp) (P : Option Value → Hp → Prop) : Prop := Ct l E yX9_takeDraft cX9_takeDraft 2 none rmX9_takeDraft av f P
abbrev rmX11_beginAnew : Room := ⟨2, 0, 0, 41⟩
abbrev KX11_beginAnew (l : Launch) (E : JE) (av : List Value) (f : Hp) (P : Option Value → Hp → Prop) : Prop := Ct l E yX11_beginAnew cX11_beginAnew 1 none rmX11_beginAnew av f P
abbrev rmX6_clear : Room := ⟨0, 0, 0, 0⟩
abbrev KX6_clear (l : Launch) (E : JE) (av : List Value) (f : Hp) (P : Option Value → Hp → Prop) : Prop := Ct l E yX6_clear cX6_clear 1 none rmX6_clear av f P
abbrev rmX0_clear : Room := ⟨0, 0, 0, 0⟩
abbrev KX0_clear (l : Launch) (E : JE) (av : List Value) (f : Hp) (P : Option Value → Hp → Prop) : Prop := Ct l E yX0_clear cX0_clear 1 none rmX0_clear av f P
abbrev rmX9_clear : Room := ⟨1, 0, 0, 20⟩
abbrev KX9_clear (l : Launch) (E : JE) (av : List Value) (f : Hp) (P : Option Value → Hp → Prop) : Prop := Ct l E yX9_clear cX9_clear 2 none rmX9_clear av f P
abbrev rmX8_clear : Room := ⟨0, 0, 0, 0⟩
abbrev KX8_clear (l : Launch) (E : JE) (av : List Value) (f : Hp) (P : Option Value → Hp → Prop) : Prop := Ct l E yX8_clear cX8_clear 1 none rmX8_clear av f P
abbrev rmX9_size : Room := ⟨1, 0, 0, 20⟩
abbrev KX9_size (l : Launch) (E : JE) (av : List Value) (f : Hp) (P : Option Value → Hp → Prop) : Prop := Ct l E yX9_size cX9_size 1 (some .int) rmX9_size av f P
abbrev rmX5_size : Room := ⟨0, 0, 0, 0⟩
abbrev KX5_size (l : Launch) (E : JE) (av : List Value) (f : Hp) (P : Option Value → Hp → Prop) : Prop := Ct l E yX5_size cX5_size 1 (some .int) rmX5_size av f P
abbrev rmX11_fault : Room := ⟨0, 0, 0, 0⟩
abbrev KX11_fault (l : Launch) (E : JE) (av : List Value) (f : Hp) (P : Option Value → Hp → Prop) : Prop := Ct l E yX11_fault cX11_fault 1 (some .int) rmX11_fault av f P
abbrev rmX11_late : Room := ⟨3, 0, 0, 61⟩
abbrev KX11_late (l : Launch) (E : JE) (av : List Value) (f : Hp) (P : Option Value → Hp → Prop) : Prop := Ct l E yX11_late cX11_late 3 (some .int) rmX11_late av f P
abbrev rmX11_read : Room := ⟨7, 0, 0, 156⟩
abbrev KX11_read (l : Launch) (E : JE) (av : List Value) (f : Hp) (P : Option Value → Hp → Prop) : Prop := Ct l E yX11_read cX11_read 4 (some .int) rmX11_read av f P
abbrev rmX6_rowsRead : Room := ⟨0, 0, 0, 0⟩
abbrev KX6_rowsRead (l : Launch) (E : JE) (av : List Value) (f : Hp) (P : Option Value → Hp → Prop) : Prop := Ct l E yX6_rowsRead cX6_rowsRead 1 (some .int) rmX6_rowsRead av f P
abbrev rmX11_readNext : Room := ⟨6, 0, 0, 131⟩
abbrev KX11_readNext (l : Launch) (E : JE) (av : List Value) (f : Hp) (P : Option Value → Hp → Prop) : Prop := Ct l E yX11_readNext cX11_readNext 6 (some .boolean) rmX11_readNext av f P
abbrev rmX2_rowAt : Room := ⟨1, 0, 0, 22⟩
abbrev KX2_rowAt (l : Launch) (E : JE) (av : List Value) (f : Hp) (P : Option Value → Hp → Prop) : Prop := Ct l E yX2_rowAt cX2_rowAt 2 (some .long) rmX2_rowAt av f P
abbrev rmX7_timeOf : Room := ⟨0, 0, 0, 0⟩
abbrev KX7_timeOf (l : Launch) (E : JE) (av : List Value) (f : Hp) (P : Option Value → Hp → Prop) : Prop := Ct l E yX7_timeOf cX7_timeOf 2 (some .int) rmX7_timeOf av f P
abbrev rmX6_greatestTime : Room := ⟨0, 0, 0, 0⟩
abbrev KX6_greatestTime (l : Launch) (E : JE) (av : List Value) (f : Hp) (P : Option Value → Hp → Prop) : Prop := Ct l E yX6_greatestTime cX6_greatestTime 1 (some .int) rmX6_greatestTime av f P
abbrev rmX2_sourceAt : Room := ⟨1, 0, 0, 22⟩
abbrev KX2_sourceAt (l : Launch) (E : JE) (av : List Value) (f : Hp) (P : Option Value → Hp → Prop) : Prop := Ct l E yX2_sourceAt cX2_sourceAt 2 (some .int) rmX2_sourceAt av f P
abbrev rmX9_offer : Room := ⟨5, 0, 0, 105⟩
abbrev KX9_offer (l : Launch) (E : JE) (av : List Value) (f : Hp) (P : Option Value → Hp → Prop) : Prop := Ct l E yX9_offer cX9_offer 7 (some .boolean) rmX9_offer av f P
abbrev rmX9_touches : Room := ⟨2, 0, 0, 43⟩
abbrev KX9_touches (l : Launch) (E : JE) (av : List Value) (f : Hp) (P : Option Value → Hp → Prop) : Prop := Ct l E yX9_touches cX9_touches 2 (some .boolean) rmX9_touches av f P
abbrev rmX9_has : Room := ⟨1, 0, 0, 22⟩
abbrev KX9_has (l : Launch) (E : JE) (av : List Value) (f : Hp) (P : Option Value → Hp → Prop) : Prop := Ct l E yX9_has cX9_has 2 (some .boolean) rmX9_has av f P
abbrev rmX8_copy : Room := ⟨3, 0, 0, 30⟩
abbrev KX8_copy (l : Launch) (E : JE) (av : List Value) (f : Hp) (P : Option Value → Hp → Prop) : Prop := Ct l E yX8_copy cX8_copy 2 none rmX8_copy av f P
abbrev rmX8_add : Room := ⟨0, 0, 0, 0⟩
abbrev KX8_add (l : Launch) (E : JE) (av : List Value) (f : Hp) (P : Option Value → Hp → Prop) : Prop := Ct l E yX8_add cX8_add 3 none rmX8_add av f P
abbrev rmX9_offeredOf : Room := ⟨3, 0, 0, 64⟩
abbrev KX9_offeredOf (l : Launch) (E : JE) (av : List Value) (f : Hp) (P : Option Value → Hp → Prop) : Prop := Ct l E yX9_offeredOf cX9_offeredOf 2 (some (.object "TableStreams$Rows")) rmX9_offeredOf av f P
abbrev rmX9_rowsOf : Room := ⟨2, 0, 0, 43⟩
abbrev KX9_rowsOf (l : Launch) (E : JE) (av : List Value) (f : Hp) (P : Option Value → Hp → Prop) : Prop := Ct l E yX9_rowsOf cX9_rowsOf 2 (some (.object "TableStreams$Rows")) rmX9_rowsOf av f P
abbrev rmX3_fill : Room := ⟨4, 0, 0, 81⟩
abbrev KX3_fill (l : Launch) (E : JE) (av : List Value) (f : Hp) (P : Option Value → Hp → Prop) : Prop := Ct l E yX3_fill cX3_fill 5 none rmX3_fill av f P
abbrev rmX3_fillByGroup : Room := ⟨2, 0, 0, 48⟩
abbrev KX3_fillByGroup (l : Launch) (E : JE) (av : List Value) (f : Hp) (P : Option Value → Hp → Prop) : Prop := Ct l E yX3_fillByGroup cX3_fillByGroup 12 none rmX3_fillByGroup av f P
abbrev rmX8_size : Room := ⟨0, 0, 0, 0⟩
abbrev KX8_size (l : Launch) (E : JE) (av : List Value) (f : Hp) (P : Option Value → Hp → Prop) : Prop := Ct l E yX8_size cX8_size 1 (some .int) rmX8_size av f P
abbrev rmX8_at : Room := ⟨1, 0, 0, 22⟩
abbrev KX8_at (l : Launch) (E : JE) (av : List Value) (f : Hp) (P : Option Value → Hp → Prop) : Prop := Ct l E yX8_at cX8_at 2 (some .long) rmX8_at av f P
abbrev rmX7_valueOf : Room := ⟨0, 0, 0, 0⟩
abbrev KX7_valueOf (l : Launch) (E : JE) (av : List Value) (f : Hp) (P : Option Value → Hp → Prop) : Prop := Ct l E yX7_valueOf cX7_valueOf 2 (some .int) rmX7_valueOf av f P
abbrev rmX7_groupOf : Room := ⟨0, 0, 0, 0⟩
abbrev KX7_groupOf (l : Launch) (E : JE) (av : List Value) (f : Hp) (P : Option Value → Hp → Prop) : Prop := Ct l E yX7_groupOf cX7_groupOf 2 (some .long) rmX7_groupOf av f P
abbrev rmX7_keyOf : Room := ⟨0, 0, 0, 0⟩
abbrev KX7_keyOf (l : Launch) (E : JE) (av : List Value) (f : Hp) (P : Option Value → Hp → Prop) : Prop := Ct l E yX7_keyOf cX7_keyOf 2 (some .int) rmX7_keyOf av f P
abbrev rmX8_add_ : Room := ⟨1, 0, 0, 24⟩
abbrev KX8_add_ (l : Launch) (E : JE) (av : List Value) (f : Hp) (P : Option Value → Hp → Prop) : Prop := Ct l E yX8_add_ cX8_add_ 5 none rmX8_add_ av f P
abbrev rmX3_fillByKey : Room := ⟨2, 0, 0, 43⟩
abbrev KX3_fillByKey (l : Launch) (E : JE) (av : List Value) (f : Hp) (P : Option Value → Hp → Prop) : Prop := Ct l E yX3_fillByKey cX3_fillByKey 6 none rmX3_fillByKey av f P
abbrev rmX3_fillByPairs : Room := ⟨3, 0, 0, 48⟩
abbrev KX3_fillByPairs (l : Launch) (E : JE) (av : List Value) (f : Hp) (P : Option Value → Hp → Prop) : Prop := Ct l E yX3_fillByPairs cX3_fillByPairs 14 none rmX3_fillByPairs av f P
abbrev rmX8_isFull : Room := ⟨0, 0, 0, 0⟩
abbrev KX8_isFull (l : Launch) (E : JE) (av : List Value) (f : Hp) (P : Option Value → Hp → Prop) : Prop := Ct l E yX8_isFull cX8_isFull 1 (some .boolean) rmX8_isFull av f P
abbrev rmX8_keys : Room := ⟨1, 0, 0, 21⟩
abbrev KX8_keys (l : Launch) (E : JE) (av : List Value) (f : Hp) (P : Option Value → Hp → Prop) : Prop := Ct l E yX8_keys cX8_keys 3 (some .int) rmX8_keys av f P
abbrev rmX3_fillWithout : Room := ⟨2, 0, 0, 43⟩
abbrev KX3_fillWithout (l : Launch) (E : JE) (av : List Value) (f : Hp) (P : Option Value → Hp → Prop) : Prop := Ct l E yX3_fillWithout cX3_fillWithout 7 none rmX3_fillWithout av f P
abbrev rmX3_addOne : Room := ⟨2, 0, 0, 48⟩
abbrev KX3_addOne (l : Launch) (E : JE) (av : List Value) (f : Hp) (P : Option Value → Hp → Prop) : Prop := Ct l E yX3_addOne cX3_addOne 8 none rmX3_addOne av f P
abbrev rmX7_partOf : Room := ⟨1, 0, 0, 21⟩
abbrev KX7_partOf (l : Launch) (E : JE) (av : List Value) (f : Hp) (P : Option Value → Hp → Prop) : Prop := Ct l E yX7_partOf cX7_partOf 3 (some .int) rmX7_partOf av f P
abbrev rmX3_holdsOf : Room := ⟨0, 0, 0, 0⟩
abbrev KX3_holdsOf (l : Launch) (E : JE) (av : List Value) (f : Hp) (P : Option Value → Hp → Prop) : Prop := Ct l E yX3_holdsOf cX3_holdsOf 2 (some .boolean) rmX3_holdsOf av f P
abbrev rmX8_sort : Room := ⟨4, 0, 0, 58⟩
abbrev KX8_sort (l : Launch) (E : JE) (av : List Value) (f : Hp) (P : Option Value → Hp → Prop) : Prop := Ct l E yX8_sort cX8_sort 4 none rmX8_sort av f P
abbrev rmX8_merge : Room := ⟨3, 0, 0, 30⟩
abbrev KX8_merge (l : Launch) (E : JE) (av : List Value) (f : Hp) (P : Option Value → Hp → Prop) : Prop := Ct l E yX8_merge cX8_merge 9 none rmX8_merge av f P
abbrev rmX9_answer : Room := ⟨3, 0, 0, 64⟩
abbrev KX9_answer (l : Launch) (E : JE) (av : List Value) (f : Hp) (P : Option Value → Hp → Prop) : Prop := Ct l E yX9_answer cX9_answer 1 (some (.object "TableStreams$Rows")) rmX9_answer av f P
abbrev rmX9_answerOffered : Room := ⟨4, 0, 0, 85⟩
abbrev KX9_answerOffered (l : Launch) (E : JE) (av : List Value) (f : Hp) (P : Option Value → Hp → Prop) : Prop := Ct l E yX9_answerOffered cX9_answerOffered 1 (some (.object "TableStreams$Rows")) rmX9_answerOffered av f P
abbrev rmX0_addDifference : Room := ⟨3, 0, 0, 70⟩
abbrev KX0_addDifference (l : Launch) (E : JE) (av : List Value) (f : Hp) (P : Option Value → Hp → Prop) : Prop := Ct l E yX0_addDifference cX0_addDifference 4 (some .boolean) rmX0_addDifference av f P
abbrev rmX0_addMissing : Room := ⟨2, 0, 0, 43⟩
abbrev KX0_addMissing (l : Launch) (E : JE) (av : List Value) (f : Hp) (P : Option Value → Hp → Prop) : Prop := Ct l E yX0_addMissing cX0_addMissing 8 (some .boolean) rmX0_addMissing av f P
abbrev rmX9_acceptOffer : Room := ⟨1, 0, 0, 20⟩
abbrev KX9_acceptOffer (l : Launch) (E : JE) (av : List Value) (f : Hp) (P : Option Value → Hp → Prop) : Prop := Ct l E yX9_acceptOffer cX9_acceptOffer 3 none rmX9_acceptOffer av f P
abbrev rmX6_step : Room := ⟨3, 0, 0, 30⟩
abbrev KX6_step (l : Launch) (E : JE) (av : List Value) (f : Hp) (P : Option Value → Hp → Prop) : Prop := Ct l E yX6_step cX6_step 3 none rmX6_step av f P
abbrev rmX11_mark : Room := ⟨5, 0, 0, 72⟩
abbrev KX11_mark (l : Launch) (E : JE) (av : List Value) (f : Hp) (P : Option Value → Hp → Prop) : Prop := Ct l E yX11_mark cX11_mark 1 (some .int) rmX11_mark av f P
abbrev rmX0_addAll : Room := ⟨3, 0, 0, 30⟩
abbrev KX0_addAll (l : Launch) (E : JE) (av : List Value) (f : Hp) (P : Option Value → Hp → Prop) : Prop := Ct l E yX0_addAll cX0_addAll 2 (some .boolean) rmX0_addAll av f P
abbrev rmX6_copy : Room := ⟨0, 0, 0, 0⟩
abbrev KX6_copy (l : Launch) (E : JE) (av : List Value) (f : Hp) (P : Option Value → Hp → Prop) : Prop := Ct l E yX6_copy cX6_copy 2 none rmX6_copy av f P
abbrev rmX9_keep : Room := ⟨4, 0, 0, 51⟩
abbrev KX9_keep (l : Launch) (E : JE) (av : List Value) (f : Hp) (P : Option Value → Hp → Prop) : Prop := Ct l E yX9_keep cX9_keep 2 none rmX9_keep av f P
abbrev rmX0_size : Room := ⟨0, 0, 0, 0⟩
abbrev KX0_size (l : Launch) (E : JE) (av : List Value) (f : Hp) (P : Option Value → Hp → Prop) : Prop := Ct l E yX0_size cX0_size 1 (some .int) rmX0_size av f P
abbrev rmX11_fall : Room := ⟨5, 0, 0, 72⟩
abbrev KX11_fall (l : Launch) (E : JE) (av : List Value) (f : Hp) (P : Option Value → Hp → Prop) : Prop := Ct l E yX11_fall cX11_fall 1 (some .int) rmX11_fall av f P
abbrev rmX9_restore : Room := ⟨4, 0, 0, 51⟩
abbrev KX9_restore (l : Launch) (E : JE) (av : List Value) (f : Hp) (P : Option Value → Hp → Prop) : Prop := Ct l E yX9_restore cX9_restore 2 none rmX9_restore av f P
abbrev rmX11_rows : Room := ⟨3, 0, 0, 64⟩
abbrev KX11_rows (l : Launch) (E : JE) (av : List Value) (f : Hp) (P : Option Value → Hp → Prop) : Prop := Ct l E yX11_rows cX11_rows 2 (some .int) rmX11_rows av f P
abbrev rmX11_row : Room := ⟨3, 0, 0, 64⟩
abbrev KX11_row (l : Launch) (E : JE) (av : List Value) (f : Hp) (P : Option Value → Hp → Prop) : Prop := Ct l E yX11_row cX11_row 4 (some .int) rmX11_row av f P
abbrev rmX11_out : Room := ⟨3, 0, 0, 65⟩
abbrev KX11_out (l : Launch) (E : JE) (av : List Value) (f : Hp) (P : Option Value → Hp → Prop) : Prop := Ct l E yX11_out cX11_out 3 (some .int) rmX11_out av f P
abbrev rmX0_partOf : Room := ⟨2, 0, 0, 43⟩
abbrev KX0_partOf (l : Launch) (E : JE) (av : List Value) (f : Hp) (P : Option Value → Hp → Prop) : Prop := Ct l E yX0_partOf cX0_partOf 3 (some .int) rmX0_partOf av f P
abbrev rmX11_host : Room := ⟨3, 0, 0, 67⟩
abbrev KX11_host (l : Launch) (E : JE) (av : List Value) (f : Hp) (P : Option Value → Hp → Prop) : Prop := Ct l E yX11_host cX11_host 3 (some .int) rmX11_host av f P
abbrev rmX1_has : Room := ⟨1, 0, 0, 22⟩
abbrev KX1_has (l : Launch) (E : JE) (av : List Value) (f : Hp) (P : Option Value → Hp → Prop) : Prop := Ct l E yX1_has cX1_has 2 (some .boolean) rmX1_has av f P
abbrev rmX1_size : Room := ⟨0, 0, 0, 0⟩
abbrev KX1_size (l : Launch) (E : JE) (av : List Value) (f : Hp) (P : Option Value → Hp → Prop) : Prop := Ct l E yX1_size cX1_size 1 (some .int) rmX1_size av f P
abbrev rmX1_change : Room := ⟨1, 0, 0, 25⟩
abbrev KX1_change (l : Launch) (E : JE) (av : List Value) (f : Hp) (P : Option Value → Hp → Prop) : Prop := Ct l E yX1_change cX1_change 6 (some .int) rmX1_change av f P
abbrev rmX1_choose : Room := ⟨0, 0, 0, 0⟩
abbrev KX1_choose (l : Launch) (E : JE) (av : List Value) (f : Hp) (P : Option Value → Hp → Prop) : Prop := Ct l E yX1_choose cX1_choose 6 (some .int) rmX1_choose av f P
abbrev rmX9_countOfKeys : Room := ⟨2, 0, 0, 44⟩
abbrev KX9_countOfKeys (l : Launch) (E : JE) (av : List Value) (f : Hp) (P : Option Value → Hp → Prop) : Prop := Ct l E yX9_countOfKeys cX9_countOfKeys 4 (some .int) rmX9_countOfKeys av f P
abbrev rmX8_countOfKeys : Room := ⟨1, 0, 0, 21⟩
abbrev KX8_countOfKeys (l : Launch) (E : JE) (av : List Value) (f : Hp) (P : Option Value → Hp → Prop) : Prop := Ct l E yX8_countOfKeys cX8_countOfKeys 4 (some .int) rmX8_countOfKeys av f P
abbrev rmX11_owner : Room := ⟨2, 0, 0, 43⟩
abbrev KX11_owner (l : Launch) (E : JE) (av : List Value) (f : Hp) (P : Option Value → Hp → Prop) : Prop := Ct l E yX11_owner cX11_owner 2 (some .int) rmX11_owner av f P
abbrev rmX1_ownerOf : Room := ⟨1, 0, 0, 22⟩
abbrev KX1_ownerOf (l : Launch) (E : JE) (av : List Value) (f : Hp) (P : Option Value → Hp → Prop) : Prop := Ct l E yX1_ownerOf cX1_ownerOf 2 (some .int) rmX1_ownerOf av f P
abbrev rmX11_owns : Room := ⟨3, 0, 0, 67⟩
abbrev KX11_owns (l : Launch) (E : JE) (av : List Value) (f : Hp) (P : Option Value → Hp → Prop) : Prop := Ct l E yX11_owns cX11_owns 2 (some .int) rmX11_owns av f P
abbrev rmX1_keysOf : Room := ⟨0, 0, 0, 0⟩
abbrev KX1_keysOf (l : Launch) (E : JE) (av : List Value) (f : Hp) (P : Option Value → Hp → Prop) : Prop := Ct l E yX1_keysOf cX1_keysOf 4 (some .int) rmX1_keysOf av f P
abbrev rmX11_count : Room := ⟨2, 0, 0, 40⟩
abbrev KX11_count (l : Launch) (E : JE) (av : List Value) (f : Hp) (P : Option Value → Hp → Prop) : Prop := Ct l E yX11_count cX11_count 2 (some .int) rmX11_count av f P
abbrev rmX6_rowsLate : Room := ⟨0, 0, 0, 0⟩
abbrev KX6_rowsLate (l : Launch) (E : JE) (av : List Value) (f : Hp) (P : Option Value → Hp → Prop) : Prop := Ct l E yX6_rowsLate cX6_rowsLate 1 (some .int) rmX6_rowsLate av f P
abbrev rmX11_status : Room := ⟨0, 0, 0, 0⟩
abbrev KX11_status (l : Launch) (E : JE) (av : List Value) (f : Hp) (P : Option Value → Hp → Prop) : Prop := Ct l E yX11_status cX11_status 1 (some .int) rmX11_status av f P
abbrev rmX12_init : Room := ⟨3, 33, 62020, 30⟩
abbrev KX12_init (l : Launch) (E : JE) (av : List Value) (f : Hp) (P : Option Value → Hp → Prop) : Prop := Ct l E yX12_init cX12_init 1 none rmX12_init av f P
abbrev rmX12_tell : Room := ⟨1, 0, 0, 25⟩
abbrev KX12_tell (l : Launch) (E : JE) (av : List Value) (f : Hp) (P : Option Value → Hp → Prop) : Prop := Ct l E yX12_tell cX12_tell 5 (some .int) rmX12_tell av f P
abbrev rmX12_in : Room := ⟨0, 0, 0, 0⟩
abbrev KX12_in (l : Launch) (E : JE) (av : List Value) (f : Hp) (P : Option Value → Hp → Prop) : Prop := Ct l E yX12_in cX12_in 6 (some .boolean) rmX12_in av f P
abbrev rmX12_told : Room := ⟨0, 0, 0, 0⟩
abbrev KX12_told (l : Launch) (E : JE) (av : List Value) (f : Hp) (P : Option Value → Hp → Prop) : Prop := Ct l E yX12_told cX12_told 2 (some .int) rmX12_told av f P
abbrev rmX12_read : Room := ⟨6, 0, 0, 147⟩
abbrev KX12_read (l : Launch) (E : JE) (av : List Value) (f : Hp) (P : Option Value → Hp → Prop) : Prop := Ct l E yX12_read cX12_read 4 (some .int) rmX12_read av f P
abbrev rmX12_readOne : Room := ⟨5, 0, 0, 125⟩
abbrev KX12_readOne (l : Launch) (E : JE) (av : List Value) (f : Hp) (P : Option Value → Hp → Prop) : Prop := Ct l E yX12_readOne cX12_readOne 3 (some .boolean) rmX12_readOne av f P
abbrev rmX12_latest : Room := ⟨0, 0, 0, 0⟩
abbrev KX12_latest (l : Launch) (E : JE) (av : List Value) (f : Hp) (P : Option Value → Hp → Prop) : Prop := Ct l E yX12_latest cX12_latest 4 (some .int) rmX12_latest av f P
abbrev rmX12_makeAll : Room := ⟨4, 0, 0, 103⟩
abbrev KX12_makeAll (l : Launch) (E : JE) (av : List Value) (f : Hp) (P : Option Value → Hp → Prop) : Prop := Ct l E yX12_makeAll cX12_makeAll 3 (some .boolean) rmX12_makeAll av f P
abbrev rmX12_make : Room := ⟨3, 0, 0, 80⟩
abbrev KX12_make (l : Launch) (E : JE) (av : List Value) (f : Hp) (P : Option Value → Hp → Prop) : Prop := Ct l E yX12_make cX12_make 4 none rmX12_make av f P
abbrev rmX12_add : Room := ⟨1, 0, 0, 25⟩
abbrev KX12_add (l : Launch) (E : JE) (av : List Value) (f : Hp) (P : Option Value → Hp → Prop) : Prop := Ct l E yX12_add cX12_add 7 none rmX12_add av f P
abbrev rmX12_isBefore : Room := ⟨0, 0, 0, 0⟩
abbrev KX12_isBefore (l : Launch) (E : JE) (av : List Value) (f : Hp) (P : Option Value → Hp → Prop) : Prop := Ct l E yX12_isBefore cX12_isBefore 5 (some .boolean) rmX12_isBefore av f P
abbrev rmX12_makeEach : Room := ⟨2, 0, 0, 51⟩
abbrev KX12_makeEach (l : Launch) (E : JE) (av : List Value) (f : Hp) (P : Option Value → Hp → Prop) : Prop := Ct l E yX12_makeEach cX12_makeEach 5 none rmX12_makeEach av f P
abbrev rmX12_makeHeaps : Room := ⟨2, 0, 0, 51⟩
abbrev KX12_makeHeaps (l : Launch) (E : JE) (av : List Value) (f : Hp) (P : Option Value → Hp → Prop) : Prop := Ct l E yX12_makeHeaps cX12_makeHeaps 10 none rmX12_makeHeaps av f P
abbrev rmX12_makeOfTwo : Room := ⟨2, 0, 0, 51⟩
abbrev KX12_makeOfTwo (l : Launch) (E : JE) (av : List Value) (f : Hp) (P : Option Value → Hp → Prop) : Prop := Ct l E yX12_makeOfTwo cX12_makeOfTwo 7 none rmX12_makeOfTwo av f P
abbrev rmX12_change : Room := ⟨1, 0, 0, 22⟩
abbrev KX12_change (l : Launch) (E : JE) (av : List Value) (f : Hp) (P : Option Value → Hp → Prop) : Prop := Ct l E yX12_change cX12_change 6 (some .boolean) rmX12_change av f P
abbrev rmX12_order : Room := ⟨0, 0, 0, 0⟩
abbrev KX12_order (l : Launch) (E : JE) (av : List Value) (f : Hp) (P : Option Value → Hp → Prop) : Prop := Ct l E yX12_order cX12_order 3 (some .int) rmX12_order av f P
abbrev rmX12_keep : Room := ⟨0, 0, 0, 0⟩
abbrev KX12_keep (l : Launch) (E : JE) (av : List Value) (f : Hp) (P : Option Value → Hp → Prop) : Prop := Ct l E yX12_keep cX12_keep 3 none rmX12_keep av f P
abbrev rmX12_mark : Room := ⟨1, 0, 0, 21⟩
abbrev KX12_mark (l : Launch) (E : JE) (av : List Value) (f : Hp) (P : Option Value → Hp → Prop) : Prop := Ct l E yX12_mark cX12_mark 2 (some .int) rmX12_mark av f P
abbrev rmX12_fall : Room := ⟨6, 0, 0, 146⟩
abbrev KX12_fall (l : Launch) (E : JE) (av : List Value) (f : Hp) (P : Option Value → Hp → Prop) : Prop := Ct l E yX12_fall cX12_fall 1 (some .int) rmX12_fall av f P
abbrev rmX12_goTo : Room := ⟨5, 0, 0, 125⟩
abbrev KX12_goTo (l : Launch) (E : JE) (av : List Value) (f : Hp) (P : Option Value → Hp → Prop) : Prop := Ct l E yX12_goTo cX12_goTo 2 none rmX12_goTo av f P
abbrev rmX12_late : Room := ⟨7, 0, 0, 166⟩
abbrev KX12_late (l : Launch) (E : JE) (av : List Value) (f : Hp) (P : Option Value → Hp → Prop) : Prop := Ct l E yX12_late cX12_late 3 (some .int) rmX12_late av f P
abbrev rmX12_begin : Room := ⟨6, 0, 0, 146⟩
abbrev KX12_begin (l : Launch) (E : JE) (av : List Value) (f : Hp) (P : Option Value → Hp → Prop) : Prop := Ct l E yX12_begin cX12_begin 1 none rmX12_begin av f P
abbrev rmX12_feed : Room := ⟨1, 0, 0, 22⟩
abbrev KX12_feed (l : Launch) (E : JE) (av : List Value) (f : Hp) (P : Option Value → Hp → Prop) : Prop := Ct l E yX12_feed cX12_feed 6 (some .int) rmX12_feed av f P
abbrev rmX12_four : Room := ⟨0, 0, 0, 0⟩
abbrev KX12_four (l : Launch) (E : JE) (av : List Value) (f : Hp) (P : Option Value → Hp → Prop) : Prop := Ct l E yX12_four cX12_four 3 none rmX12_four av f P
abbrev rmX12_end : Room := ⟨0, 0, 0, 0⟩
abbrev KX12_end (l : Launch) (E : JE) (av : List Value) (f : Hp) (P : Option Value → Hp → Prop) : Prop := Ct l E yX12_end cX12_end 2 (some .int) rmX12_end av f P
abbrev rmX12_tables : Room := ⟨7, 0, 0, 166⟩
abbrev KX12_tables (l : Launch) (E : JE) (av : List Value) (f : Hp) (P : Option Value → Hp → Prop) : Prop := Ct l E yX12_tables cX12_tables 2 (some .int) rmX12_tables av f P
abbrev rmX12_next : Room := ⟨1, 0, 0, 20⟩
abbrev KX12_next (l : Launch) (E : JE) (av : List Value) (f : Hp) (P : Option Value → Hp → Prop) : Prop := Ct l E yX12_next cX12_next 1 none rmX12_next av f P
abbrev rmX12_isSmall : Room := ⟨0, 0, 0, 0⟩
abbrev KX12_isSmall (l : Launch) (E : JE) (av : List Value) (f : Hp) (P : Option Value → Hp → Prop) : Prop := Ct l E yX12_isSmall cX12_isSmall 1 (some .boolean) rmX12_isSmall av f P
abbrev rmX12_isDigit : Room := ⟨0, 0, 0, 0⟩
abbrev KX12_isDigit (l : Launch) (E : JE) (av : List Value) (f : Hp) (P : Option Value → Hp → Prop) : Prop := Ct l E yX12_isDigit cX12_isDigit 1 (some .boolean) rmX12_isDigit av f P
abbrev rmX12_readTable : Room := ⟨5, 0, 0, 108⟩
abbrev KX12_readTable (l : Launch) (E : JE) (av : List Value) (f : Hp) (P : Option Value → Hp → Prop) : Prop := Ct l E yX12_readTable cX12_readTable 7 none rmX12_readTable av f P
abbrev rmX12_isName : Room := ⟨0, 0, 0, 0⟩
abbrev KX12_isName (l : Launch) (E : JE) (av : List Value) (f : Hp) (P : Option Value → Hp → Prop) : Prop := Ct l E yX12_isName cX12_isName 1 (some .boolean) rmX12_isName av f P
abbrev rmX12_must : Room := ⟨2, 0, 0, 40⟩
abbrev KX12_must (l : Launch) (E : JE) (av : List Value) (f : Hp) (P : Option Value → Hp → Prop) : Prop := Ct l E yX12_must cX12_must 2 none rmX12_must av f P
abbrev rmX12_isSign : Room := ⟨0, 0, 0, 0⟩
abbrev KX12_isSign (l : Launch) (E : JE) (av : List Value) (f : Hp) (P : Option Value → Hp → Prop) : Prop := Ct l E yX12_isSign cX12_isSign 2 (some .boolean) rmX12_isSign av f P
abbrev rmX12_kindAt : Room := ⟨1, 0, 0, 28⟩
abbrev KX12_kindAt (l : Launch) (E : JE) (av : List Value) (f : Hp) (P : Option Value → Hp → Prop) : Prop := Ct l E yX12_kindAt cX12_kindAt 1 (some .int) rmX12_kindAt av f P
abbrev rmX12_isWord : Room := ⟨0, 0, 0, 0⟩
abbrev KX12_isWord (l : Launch) (E : JE) (av : List Value) (f : Hp) (P : Option Value → Hp → Prop) : Prop := Ct l E yX12_isWord cX12_isWord 9 (some .boolean) rmX12_isWord av f P
abbrev rmX12_number : Room := ⟨3, 0, 0, 61⟩
abbrev KX12_number (l : Launch) (E : JE) (av : List Value) (f : Hp) (P : Option Value → Hp → Prop) : Prop := Ct l E yX12_number cX12_number 6 (some .int) rmX12_number av f P
abbrev rmX12_name : Room := ⟨3, 0, 0, 61⟩
abbrev KX12_name (l : Launch) (E : JE) (av : List Value) (f : Hp) (P : Option Value → Hp → Prop) : Prop := Ct l E yX12_name cX12_name 2 (some .int) rmX12_name av f P
abbrev rmX12_signed : Room := ⟨4, 0, 0, 86⟩
abbrev KX12_signed (l : Launch) (E : JE) (av : List Value) (f : Hp) (P : Option Value → Hp → Prop) : Prop := Ct l E yX12_signed cX12_signed 3 (some .int) rmX12_signed av f P
abbrev rmX12_fault : Room := ⟨0, 0, 0, 0⟩
abbrev KX12_fault (l : Launch) (E : JE) (av : List Value) (f : Hp) (P : Option Value → Hp → Prop) : Prop := Ct l E yX12_fault cX12_fault 1 (some .int) rmX12_fault av f P
abbrev rmX12_rows : Room := ⟨2, 0, 0, 46⟩
abbrev KX12_rows (l : Launch) (E : JE) (av : List Value) (f : Hp) (P : Option Value → Hp → Prop) : Prop := Ct l E yX12_rows cX12_rows 2 (some .int) rmX12_rows av f P
abbrev rmX12_isTable : Room := ⟨1, 0, 0, 25⟩
abbrev KX12_isTable (l : Launch) (E : JE) (av : List Value) (f : Hp) (P : Option Value → Hp → Prop) : Prop := Ct l E yX12_isTable cX12_isTable 2 (some .boolean) rmX12_isTable av f P
abbrev rmX12_row : Room := ⟨2, 0, 0, 46⟩
abbrev KX12_row (l : Launch) (E : JE) (av : List Value) (f : Hp) (P : Option Value → Hp → Prop) : Prop := Ct l E yX12_row cX12_row 5 (some .int) rmX12_row av f P
abbrev rmX12_out : Room := ⟨1, 0, 0, 25⟩
abbrev KX12_out (l : Launch) (E : JE) (av : List Value) (f : Hp) (P : Option Value → Hp → Prop) : Prop := Ct l E yX12_out cX12_out 3 (some .int) rmX12_out av f P
abbrev rmX12_host : Room := ⟨1, 0, 0, 25⟩
abbrev KX12_host (l : Launch) (E : JE) (av : List Value) (f : Hp) (P : Option Value → Hp → Prop) : Prop := Ct l E yX12_host cX12_host 7 (some .int) rmX12_host av f P
abbrev rmX12_ownerBy : Room := ⟨0, 0, 0, 0⟩
abbrev KX12_ownerBy (l : Launch) (E : JE) (av : List Value) (f : Hp) (P : Option Value → Hp → Prop) : Prop := Ct l E yX12_ownerBy cX12_ownerBy 6 (some .int) rmX12_ownerBy av f P
abbrev rmX12_owner : Room := ⟨1, 0, 0, 25⟩
abbrev KX12_owner (l : Launch) (E : JE) (av : List Value) (f : Hp) (P : Option Value → Hp → Prop) : Prop := Ct l E yX12_owner cX12_owner 2 (some .int) rmX12_owner av f P
abbrev rmX12_owns : Room := ⟨1, 0, 0, 25⟩
abbrev KX12_owns (l : Launch) (E : JE) (av : List Value) (f : Hp) (P : Option Value → Hp → Prop) : Prop := Ct l E yX12_owns cX12_owns 5 (some .int) rmX12_owns av f P
abbrev rmX12_count : Room := ⟨1, 0, 0, 23⟩
abbrev KX12_count (l : Launch) (E : JE) (av : List Value) (f : Hp) (P : Option Value → Hp → Prop) : Prop := Ct l E yX12_count cX12_count 4 (some .int) rmX12_count av f P
abbrev rmX12_status : Room := ⟨0, 0, 0, 0⟩
abbrev KX12_status (l : Launch) (E : JE) (av : List Value) (f : Hp) (P : Option Value → Hp → Prop) : Prop := Ct l E yX12_status cX12_status 1 (some .int) rmX12_status av f P
theorem cge {a b : Int} (h : 0 ≤ cI a b) : b ≤ a := by
  have := cI_lt (a := a) (b := b); omega
theorem cgt {a b : Int} (h : 0 < cI a b) : b < a := by
  have := cI_le (a := a) (b := b); omega
theorem ct_mono {l : Launch} {E : JE} {y : MethodName} {cc : ByteArray} {maxL : Nat} {ret : Option FieldType} {rm : Room} {av : List Value} {f : Hp} {P Q : Option Value → Hp → Prop} (h : Ct l E y cc maxL ret rm av f P) (hPQ : ∀ v f', P v f' → Q v f') : Ct l E y cc maxL ret rm av f Q := by
  intro sz p e ha hc hk s m args below hf happ hP hK
  obtain ⟨k, o, h1, h2, h3, ⟨⟨v, f', L, h4, h5, h6⟩, h7⟩, h8⟩ := h sz p e ha hc hk s m args below hf happ hP hK
  exact ⟨k, o, h1, h2, h3, ⟨⟨v, f', L, h4, hPQ v f' h5, h6⟩, h7⟩, h8⟩
theorem nar_cr {v : Int} (h : 0 ≤ v ∧ v < 65536) : narrow .char (.int (iZ v)) = .int (iZ v) := by
  obtain ⟨m, rfl⟩ := Int.eq_ofNat_of_zero_le h.1
  rw [← iZ_nI]
  exact (pk_charN (q := m) (by omega)).1
theorem fit_c {v : Int} (h : 0 ≤ v ∧ v < 65536) : fits .char (.int (iZ v)) = true := by
  obtain ⟨m, rfl⟩ := Int.eq_ofNat_of_zero_le h.1
  rw [← iZ_nI]
  exact (pk_charN (q := m) (by omega)).2
theorem fit_z {v : Int} (h : v = 0 ∨ v = 1) : fits .boolean (.int (iZ v)) = true := by rcases h with rfl | rfl <;> decide
theorem j_kn {G : JG} {k n k' n' : Nat} {f : Hp} {pc : Nat} {lv : List (Nat × Value)} {st : List Value} (h1 : k' = k) (h2 : n' = n) (kk : J G k n f pc lv st) : J G k' n' f pc lv st := by subst h1; subst h2; exact kk
theorem wA_I : Cond.arrayClass .int ∈ gw_tbl := gm 100 (by decide +kernel) (by decide +kernel)
theorem wA_J : Cond.arrayClass .long ∈ gw_tbl := gm 101 (by decide +kernel) (by decide +kernel)
theorem wA_Z : Cond.arrayClass .boolean ∈ gw_tbl := gm 197 (by decide +kernel) (by decide +kernel)
theorem wA_C : Cond.arrayClass .char ∈ gw_tbl := gm 121 (by decide +kernel) (by decide +kernel)
theorem dfl_L_7 : ∀ j, j < 12 → defaultValue (tyX11 j) = vp_V [.null, .null, .null, .null, .null, .null, .null, .null, .null, .int (iZ 0), .int (iZ 0), .int (iZ 0)] j := by decide +kernel
theorem nL_7 : jNw RL 7 10 [.null, .null, .null, .null, .null, .null, .null, .null, .null, .int (iZ 0), .int (iZ 0), .int (iZ 0)] := ⟨RX11, TX11, 12, tyX11, rfl, by decide, inX11, tyX11_ok, gms [76, 77, 56] (by decide +kernel) (by decide +kernel), dfl_L_7, rfl⟩
theorem nqL_7 : Cond.classLink RL 7 RX11 ∈ gw_tbl := gm 76 (by decide +kernel) (by decide +kernel)
theorem dfl_X11_7 : ∀ j, j < 3 → defaultValue (tyX2 j) = vp_V [.null, .null, .int (iZ 0)] j := by decide +kernel
theorem nX11_7 : jNw RX11 7 2 [.null, .null, .int (iZ 0)] := ⟨RX2, TX2, 3, tyX2, rfl, by decide, inX2, tyX2_ok, gms [84, 85, 57] (by decide +kernel) (by decide +kernel), dfl_X11_7, rfl⟩
theorem nqX11_7 : Cond.classLink RX11 7 RX2 ∈ gw_tbl := gm 84 (by decide +kernel) (by decide +kernel)
theorem dfl_X11_16 : ∀ j, j < 4 → defaultValue (tyX10 j) = vp_V [.null, .int (iZ 0), .int (iZ 0), .int (iZ 0)] j := by decide +kernel
theorem nX11_16 : jNw RX11 16 9 [.null, .int (iZ 0), .int (iZ 0), .int (iZ 0)] := ⟨RX10, TX10, 4, tyX10, rfl, by decide, inX10, tyX10_ok, gms [102, 103, 58] (by decide +kernel) (by decide +kernel), dfl_X11_16, rfl⟩
theorem nqX11_16 : Cond.classLink RX11 16 RX10 ∈ gw_tbl := gm 102 (by decide +kernel) (by decide +kernel)
theorem dfl_X11_23 : ∀ j, j < 1 → defaultValue (tyX4 j) = vp_V [.null] j := by decide +kernel
theorem nX11_23 : jNw RX11 23 4 [.null] := ⟨RX4, TX4, 1, tyX4, rfl, by decide, inX4, tyX4_ok, gms [122, 123, 59] (by decide +kernel) (by decide +kernel), dfl_X11_23, rfl⟩
theorem nqX11_23 : Cond.classLink RX11 23 RX4 ∈ gw_tbl := gm 122 (by decide +kernel) (by decide +kernel)
theorem dfl_X11_30 : ∀ j, j < 8 → defaultValue (tyX9 j) = vp_V [.null, .null, .null, .null, .null, .null, .null, .null] j := by decide +kernel
theorem nX11_30 : jNw RX11 30 8 [.null, .null, .null, .null, .null, .null, .null, .null] := ⟨RX9, TX9, 8, tyX9, rfl, by decide, inX9, tyX9_ok, gms [132, 133, 60] (by decide +kernel) (by decide +kernel), dfl_X11_30, rfl⟩
theorem nqX11_30 : Cond.classLink RX11 30 RX9 ∈ gw_tbl := gm 132 (by decide +kernel) (by decide +kernel)
theorem dfl_X9_9 : ∀ j, j < 3 → defaultValue (tyX8 j) = vp_V [.null, .int (iZ 0), .int (iZ 0)] j := by decide +kernel
theorem nX9_9 : jNw RX9 9 7 [.null, .int (iZ 0), .int (iZ 0)] := ⟨RX8, TX8, 3, tyX8, rfl, by decide, inX8, tyX8_ok, gms [138, 140, 61] (by decide +kernel) (by decide +kernel), dfl_X9_9, rfl⟩
theorem nqX9_9 : Cond.classLink RX9 9 RX8 ∈ gw_tbl := gm 138 (by decide +kernel) (by decide +kernel)
theorem dfl_X9_36 : ∀ j, j < 2 → defaultValue (tyX5 j) = vp_V [.null, .int (iZ 0)] j := by decide +kernel
theorem nX9_36 : jNw RX9 36 5 [.null, .int (iZ 0)] := ⟨RX5, TX5, 2, tyX5, rfl, by decide, inX5, tyX5_ok, gms [155, 156, 62] (by decide +kernel) (by decide +kernel), dfl_X9_36, rfl⟩
theorem nqX9_36 : Cond.classLink RX9 36 RX5 ∈ gw_tbl := gm 155 (by decide +kernel) (by decide +kernel)
theorem dfl_X5_9 : ∀ j, j < 6 → defaultValue (tyX3 j) = vp_V [.int (iZ 0), .int (iZ 0), .int (iZ 0), .int (iZ 0), .int (iZ 0), .int (iZ 0)] j := by decide +kernel
theorem nX5_9 : jNw RX5 9 3 [.int (iZ 0), .int (iZ 0), .int (iZ 0), .int (iZ 0), .int (iZ 0), .int (iZ 0)] := ⟨RX3, TX3, 6, tyX3, rfl, by decide, inX3, tyX3_ok, gms [161, 163, 63] (by decide +kernel) (by decide +kernel), dfl_X5_9, rfl⟩
theorem nqX5_9 : Cond.classLink RX5 9 RX3 ∈ gw_tbl := gm 161 (by decide +kernel) (by decide +kernel)
theorem dfl_X11_37 : ∀ j, j < 2 → defaultValue (tyX0 j) = vp_V [.null, .int (iZ 0)] j := by decide +kernel
theorem nX11_37 : jNw RX11 37 0 [.null, .int (iZ 0)] := ⟨RX0, TX0, 2, tyX0, rfl, by decide, inX0, tyX0_ok, gms [230, 231, 64] (by decide +kernel) (by decide +kernel), dfl_X11_37, rfl⟩
theorem nqX11_37 : Cond.classLink RX11 37 RX0 ∈ gw_tbl := gm 230 (by decide +kernel) (by decide +kernel)
theorem dfl_X11_47 : ∀ j, j < 3 → defaultValue (tyX1 j) = vp_V [.null, .null, .int (iZ 0)] j := by decide +kernel
theorem nX11_47 : jNw RX11 47 1 [.null, .null, .int (iZ 0)] := ⟨RX1, TX1, 3, tyX1, rfl, by decide, inX1, tyX1_ok, gms [243, 244, 65] (by decide +kernel) (by decide +kernel), dfl_X11_47, rfl⟩
theorem nqX11_47 : Cond.classLink RX11 47 RX1 ∈ gw_tbl := gm 243 (by decide +kernel) (by decide +kernel)
theorem dfl_X11_54 : ∀ j, j < 3 → defaultValue (tyX6 j) = vp_V [.int (iZ 0), .int (iZ 0), .int (iZ 0)] j := by decide +kernel
theorem nX11_54 : jNw RX11 54 6 [.int (iZ 0), .int (iZ 0), .int (iZ 0)] := ⟨RX6, TX6, 3, tyX6, rfl, by decide, inX6, tyX6_ok, gms [259, 260, 66] (by decide +kernel) (by decide +kernel), dfl_X11_54, rfl⟩
theorem nqX11_54 : Cond.classLink RX11 54 RX6 ∈ gw_tbl := gm 259 (by decide +kernel) (by decide +kernel)
theorem dfl_L_10 : ∀ j, j < 52 → defaultValue (tyX12 j) = vp_V [.int (iZ 0), .int (iZ 0), .int (iZ 0), .null, .null, .null, .null, .null, .int (iZ 0), .int (iZ 0), .int (iZ 0), .int (iZ 0), .null, .null, .null, .null, .null, .null, .null, .null, .null, .null, .null, .null, .null, .int (iZ 0), .int (iZ 0), .null, .null, .null, .null, .int (iZ 0), .null, .null, .null, .null, .int (iZ 0), .null, .null, .null, .null, .null, .null, .null, .int (iZ 0), .int (iZ 0), .int (iZ 0), .int (iZ 0), .long (lZ 0), .int (iZ 0), .int (iZ 0), .int (iZ 0)] j := by decide +kernel
theorem nL_10 : jNw RL 10 11 [.int (iZ 0), .int (iZ 0), .int (iZ 0), .null, .null, .null, .null, .null, .int (iZ 0), .int (iZ 0), .int (iZ 0), .int (iZ 0), .null, .null, .null, .null, .null, .null, .null, .null, .null, .null, .null, .null, .null, .int (iZ 0), .int (iZ 0), .null, .null, .null, .null, .int (iZ 0), .null, .null, .null, .null, .int (iZ 0), .null, .null, .null, .null, .null, .null, .null, .int (iZ 0), .int (iZ 0), .int (iZ 0), .int (iZ 0), .long (lZ 0), .int (iZ 0), .int (iZ 0), .int (iZ 0)] := ⟨RX12, TX12, 52, tyX12, rfl, by decide, inX12, tyX12_ok, gms [881, 882, 67] (by decide +kernel) (by decide +kernel), dfl_L_10, rfl⟩
theorem nqL_10 : Cond.classLink RL 10 RX12 ∈ gw_tbl := gm 881 (by decide +kernel) (by decide +kernel)
/-! ===== lN n to 2^64: shifts, and, or, masks, one bit ===== -/
theorem wb_tb (n : Nat) : (lN n).toBitVec = BitVec.ofNat 64 n := rfl
theorem wb_inj {a b : Int64} (h : a.toBitVec = b.toBitVec) : a = b := Int64.toBitVec_inj.mp h
theorem wb_tn {n : Nat} (h : n < 2 ^ 64) : (lN n).toBitVec.toNat = n := by rw [wb_tb, BitVec.toNat_ofNat, Nat.mod_eq_of_lt h]
theorem wb_of (x : Int64) : ∃ n, n < 2 ^ 64 ∧ x = lN n := ⟨x.toBitVec.toNat, x.toBitVec.isLt, wb_inj (by rw [wb_tb]; simp)⟩
theorem wb_of32 (x : Int32) : ∃ n, n < 2 ^ 32 ∧ x = nI n := ⟨x.toBitVec.toNat, x.toBitVec.isLt, Int32.toBitVec_inj.mp (by show _ = BitVec.ofNat 32 _; simp)⟩
theorem wb_c : ∀ k, k < 64 → ((nI k).toInt64 &&& 63) = lN k := by decide +kernel
theorem wb_cu : ∀ k, k < 64 → ((nI k).toInt64.toUInt64 &&& Int64.toUInt64 63) = UInt64.ofNat k := by decide +kernel
theorem wb_sm : ∀ k, k < 64 → (BitVec.ofNat 64 k).smod 64 = BitVec.ofNat 64 k := by decide +kernel
theorem wb_pw {a b : Nat} (h : a ≤ b) : 2 ^ b = 2 ^ a * 2 ^ (b - a) := by rw [← Nat.pow_add]; congr 1; omega
theorem wb_lt2 {a b : Nat} (h : a < b) : 2 ^ a < 2 ^ b := Nat.pow_lt_pow_right (by decide) h
theorem wb_mod (n : Nat) : lN n = lN (n % 2 ^ 64) := wb_inj (by rw [wb_tb, wb_tb]; apply BitVec.eq_of_toNat_eq; rw [BitVec.toNat_ofNat, BitVec.toNat_ofNat, Nat.mod_mod])
theorem wb_shr {n k : Nat} (hn : n < 2 ^ 64) (hk : k < 64) : ((lN n).toUInt64 >>> ((nI k).toInt64.toUInt64 &&& Int64.toUInt64 63)).toInt64 = lN (n / 2 ^ k) := by
  rw [wb_cu k hk]
  apply wb_inj
  apply BitVec.eq_of_toNat_eq
  show ((lN n).toUInt64 >>> UInt64.ofNat k).toNat = (BitVec.ofNat 64 _).toNat
  have h1 : (UInt64.ofNat k).toNat = k := by
    show (BitVec.ofNat 64 k).toNat = k
    rw [BitVec.toNat_ofNat, Nat.mod_eq_of_lt (by omega)]
  have h2 : (lN n).toUInt64.toNat = n := wb_tn hn
  rw [UInt64.toNat_shiftRight, h1, h2, Nat.mod_eq_of_lt hk, Nat.shiftRight_eq_div_pow, BitVec.toNat_ofNat, Nat.mod_eq_of_lt (Nat.lt_of_le_of_lt (Nat.div_le_self _ _) hn)]
theorem wb_shl (n : Nat) {k : Nat} (hk : k < 64) : lN n <<< ((nI k).toInt64 &&& 63) = lN (n * 2 ^ k) := by
  rw [wb_c k hk]
  apply wb_inj
  rw [Int64.toBitVec_shiftLeft, wb_tb, wb_tb, wb_tb, wb_sm k hk]
  apply BitVec.eq_of_toNat_eq
  rw [BitVec.shiftLeft_eq', BitVec.toNat_shiftLeft, BitVec.toNat_ofNat, BitVec.toNat_ofNat, BitVec.toNat_ofNat, Nat.mod_eq_of_lt (show k < 2 ^ 64 by omega), Nat.shiftLeft_eq, Nat.mul_mod, Nat.mod_mod, ← Nat.mul_mod]
theorem wb_and {a b : Nat} (ha : a < 2 ^ 64) (hb : b < 2 ^ 64) : lN a &&& lN b = lN (a &&& b) := by
  apply wb_inj
  rw [Int64.toBitVec_and, wb_tb, wb_tb, wb_tb]
  apply BitVec.eq_of_toNat_eq
  rw [BitVec.toNat_and, BitVec.toNat_ofNat, BitVec.toNat_ofNat, BitVec.toNat_ofNat, Nat.mod_eq_of_lt ha, Nat.mod_eq_of_lt hb, Nat.mod_eq_of_lt (Nat.and_lt_two_pow _ hb)]
theorem wb_or {a b : Nat} (ha : a < 2 ^ 64) (hb : b < 2 ^ 64) : lN a ||| lN b = lN (a ||| b) := by
  apply wb_inj
  rw [Int64.toBitVec_or, wb_tb, wb_tb, wb_tb]
  apply BitVec.eq_of_toNat_eq
  rw [BitVec.toNat_or, BitVec.toNat_ofNat, BitVec.toNat_ofNat, BitVec.toNat_ofNat, Nat.mod_eq_of_lt ha, Nat.mod_eq_of_lt hb, Nat.mod_eq_of_lt (Nat.or_lt_two_pow ha hb)]
theorem wb_mask {n k : Nat} (hn : n < 2 ^ 64) (hk : k < 64) : lN n &&& lN (2 ^ k - 1) = lN (n % 2 ^ k) := by
  rw [wb_and hn (by have := wb_lt2 hk; omega), Nat.and_two_pow_sub_one_eq_mod]
theorem wb_a1 {n : Nat} (hn : n < 2 ^ 64) : lN n &&& 1 = lN (n % 2) := wb_mask (k := 1) hn (by decide)
theorem wb_bit {n k : Nat} (hn : n < 2 ^ 64) (hk : k < 64) : ((lN n).toUInt64 >>> ((nI k).toInt64.toUInt64 &&& Int64.toUInt64 63)).toInt64 &&& 1 = lN (n / 2 ^ k % 2) := by
  rw [wb_shr hn hk, wb_a1 (Nat.lt_of_le_of_lt (Nat.div_le_self _ _) hn)]
/-! ===== lN: masks, 'or' of parts that don't overlap is a sum ===== -/
theorem u_tn {n : Nat} (h : n < 2 ^ 64) : (UInt64.ofNat n).toNat = n := Nat.mod_eq_of_lt h
theorem g_and {a b c : Nat} (ha : a < 2 ^ 64) (hb : b < 2 ^ 64) (hc : a &&& b = c) : lN a &&& lN b = lN c := by
  subst hc
  have h : UInt64.ofNat a &&& UInt64.ofNat b = UInt64.ofNat (a &&& b) := UInt64.toNat_inj.mp (by rw [UInt64.toNat_and, u_tn ha, u_tn hb, u_tn (Nat.and_lt_two_pow a hb)])
  have h2 := congrArg UInt64.toInt64 h
  exact h2
theorem g_and1 {a : Nat} (ha : a < 2 ^ 64) : lN a &&& 1 = lN (a % 2) := g_and (b := 1) ha (by decide) (Nat.and_two_pow_sub_one_eq_mod a 1)
theorem g_mask {a s p : Nat} (hp : 2 ^ s = p) (hs : s < 64) (ha : a < 2 ^ 64) : lN a &&& lN (p - 1) = lN (a % p) := by
  subst hp
  have := Nat.pow_lt_pow_right (show 1 < 2 by decide) hs
  exact g_and ha (by omega) (Nat.and_two_pow_sub_one_eq_mod a s)
theorem g_or {k p a b : Nat} (hp : 2 ^ k = p) (ha : a < p) (h : b * p + a < 2 ^ 64) : lN (b * p) ||| lN a = lN (b * p + a) := by
  subst hp
  have h1 : b * 2 ^ k ||| a = b * 2 ^ k + a := by rw [← Nat.shiftLeft_eq, Nat.shiftLeft_add_eq_or_of_lt ha]
  have h3 : UInt64.ofNat (b * 2 ^ k) ||| UInt64.ofNat a = UInt64.ofNat (b * 2 ^ k + a) := UInt64.toNat_inj.mp (by rw [UInt64.toNat_or, u_tn (by omega), u_tn (by omega), u_tn h, h1])
  have h2 := congrArg UInt64.toInt64 h3
  exact h2
theorem g_or' {k p a b : Nat} (hp : 2 ^ k = p) (ha : a < p) (h : a + b * p < 2 ^ 64) : lN a ||| lN (b * p) = lN (a + b * p) := by
  rw [Int64.or_comm, g_or hp ha (by omega), Nat.add_comm]
theorem g_ushr {a k p : Nat} {y : UInt64} (hy : y = UInt64.ofNat k) (hk : k < 64) (hp : 2 ^ k = p) (ha : a < 2 ^ 64) : ((lN a).toUInt64 >>> y).toInt64 = lN (a / p) := by
  subst hy hp
  have h : UInt64.ofNat a >>> UInt64.ofNat k = UInt64.ofNat (a / 2 ^ k) := UInt64.toNat_inj.mp (by rw [UInt64.toNat_shiftRight, u_tn ha, u_tn (by omega), u_tn (Nat.lt_of_le_of_lt (Nat.div_le_self _ _) ha), Nat.mod_eq_of_lt hk, Nat.shiftRight_eq_div_pow])
  have h2 := congrArg UInt64.toInt64 h
  exact h2
theorem g_shl {a k p : Nat} {y : Int64} (hy : y.toBitVec.smod 64 = BitVec.ofNat 64 k) (hk : k < 64) (hp : 2 ^ k = p) (ha : a < 2 ^ 64) : lN a <<< y = lN (a * p) := by
  subst hp
  apply Int64.toBitVec_inj.mp
  rw [Int64.toBitVec_shiftLeft, hy]
  apply BitVec.eq_of_toNat_eq
  have hb : (lN a).toBitVec.toNat = a := Nat.mod_eq_of_lt ha
  have hk' : (BitVec.ofNat 64 k).toNat = k := Nat.mod_eq_of_lt (by omega)
  have h : ((lN a).toBitVec <<< BitVec.ofNat 64 k).toNat = (a * 2 ^ k) % 2 ^ 64 := by simp only [BitVec.shiftLeft_eq', BitVec.toNat_shiftLeft, hb, hk', Nat.shiftLeft_eq]
  exact h
theorem lZ_nat (n : Nat) : lN n = lZ n := by
  show Int64.ofNat n = Int64.ofInt n
  first | rfl | simp
theorem lZ_shl {a : Int} (k : Nat) (ha : 0 ≤ a) (hk : k < 64) : lZ a <<< ((iZ k).toInt64 &&& 63) = lZ (a * 2 ^ k) := by
  obtain ⟨m, rfl⟩ := Int.eq_ofNat_of_zero_le ha
  have h := wb_shl m hk
  rw [lZ_nat, lZ_nat, iZ_nI] at h
  rw [h]
  congr 1
theorem lZ_ushr {a : Int} (k : Nat) (ha : 0 ≤ a ∧ a < 9223372036854775808) (hk : k < 64) : ((lZ a).toUInt64 >>> ((iZ k).toInt64.toUInt64 &&& Int64.toUInt64 63)).toInt64 = lZ (a / 2 ^ k) := by
  obtain ⟨m, rfl⟩ := Int.eq_ofNat_of_zero_le ha.1
  have h := wb_shr (n := m) (k := k) (by omega) hk
  rw [lZ_nat, lZ_nat, iZ_nI] at h
  rw [h]
  congr 1
theorem lZ_or {a b p : Int} (k : Nat) (hp : 2 ^ k = p) (ha : 0 ≤ a ∧ a < p) (hb : 0 ≤ b) (h : b * p + a < 9223372036854775808) : lZ (b * p) ||| lZ a = lZ (b * p + a) := by
  obtain ⟨m, rfl⟩ := Int.eq_ofNat_of_zero_le ha.1
  obtain ⟨q, rfl⟩ := Int.eq_ofNat_of_zero_le hb
  obtain ⟨u, rfl⟩ := Int.eq_ofNat_of_zero_le (show 0 ≤ p by omega)
  have hpN : 2 ^ k = u := by exact_mod_cast hp
  have hN : q * u + m < 2 ^ 64 := by
    have : ((q * u + m : Nat) : Int) < 9223372036854775808 := by push_cast; exact h
    omega
  have g := g_or (k := k) (p := u) (a := m) (b := q) hpN (by omega) hN
  rw [lZ_nat, lZ_nat, lZ_nat] at g
  have e1 : ((q * u : Nat) : Int) = (q : Int) * u := by push_cast; rfl
  have e2 : ((q * u + m : Nat) : Int) = (q : Int) * u + m := by push_cast; rfl
  rw [e1, e2] at g
  exact g
theorem lZ_mask {a p : Int} (k : Nat) (hp : 2 ^ k - 1 = p) (hk : k < 63) (ha : 0 ≤ a ∧ a < 9223372036854775808) : lZ a &&& lZ p = lZ (a % 2 ^ k) := by
  obtain ⟨m, rfl⟩ := Int.eq_ofNat_of_zero_le ha.1
  have g := wb_mask (n := m) (k := k) (by omega) (by omega)
  rw [lZ_nat, lZ_nat, lZ_nat] at g
  have h1 : (1 : Nat) ≤ 2 ^ k := Nat.one_le_two_pow
  have e1 : ((2 ^ k - 1 : Nat) : Int) = p := by rw [← hp]; push_cast [h1]; rfl
  rw [e1] at g
  rw [g]
  congr 1
theorem iZ_mask {a p : Int} (k : Nat) (hp : 2 ^ k - 1 = p) (hk : k < 32) (ha : 0 ≤ a ∧ a < 4294967296) : iZ a &&& iZ p = iZ (a % 2 ^ k) := by
  obtain ⟨m, rfl⟩ := Int.eq_ofNat_of_zero_le ha.1
  have h1 : (1 : Nat) ≤ 2 ^ k := Nat.one_le_two_pow
  have h2 : (2 : Nat) ^ k < 2 ^ 32 := Nat.pow_lt_pow_right (by decide) hk
  have e1 : ((2 ^ k - 1 : Nat) : Int) = p := by rw [← hp]; push_cast [h1]; rfl
  have g := pk_andN (n := m) (by omega) (m := nI (2 ^ k - 1)) k (pk_tn (by omega))
  rw [iZ_nI, iZ_nI, iZ_nI, e1] at g
  rw [g]
  congr 1
/-! a ROW in one number -/
def pk (k t v : Int) : Int := (k * 16384 + t) * 2147483648 + (v + 1000000000)
def rK (x : Int) : Int := x / 35184372088832
def rT (x : Int) : Int := x / 2147483648 % 16384
def rV (x : Int) : Int := x % 2147483648 - 1000000000
def rG (x : Int) : Int := x / 2147483648
def rOk (x : Int) : Prop := 0 ≤ x ∧ x < 1125899906842624
theorem pk_ok {k t v : Int} (hk : 0 ≤ k ∧ k < 32) (ht : 0 ≤ t ∧ t < 16384) (hv : -1000000000 ≤ v ∧ v ≤ 1000000000) : rOk (pk k t v) ∧ rK (pk k t v) = k ∧ rT (pk k t v) = t ∧ rV (pk k t v) = v := by
  unfold rOk pk rK rT rV
  omega
theorem rK_rng {x : Int} (h : rOk x) : 0 ≤ rK x ∧ rK x < 32 := by unfold rOk at h; unfold rK; omega
theorem rT_rng {x : Int} (h : rOk x) : 0 ≤ rT x ∧ rT x < 16384 := by unfold rT; omega
theorem rV_rng {x : Int} (h : rOk x) : -1000000000 ≤ rV x ∧ rV x < 1147483648 := by unfold rV; omega
